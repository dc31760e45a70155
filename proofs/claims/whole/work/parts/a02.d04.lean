theorem dX11_diskNow_29 : decode cX11_diskNow 29 = .ok (.iconst 5, 1) := by decide +kernel
theorem dX11_diskNow_30 : decode cX11_diskNow 30 = .ok (.idiv, 1) := by decide +kernel
theorem dX11_diskNow_31 : decode cX11_diskNow 31 = .ok (.iaload, 1) := by decide +kernel
theorem dX11_diskNow_32 : decode cX11_diskNow 32 = .ok (.goto 9, 3) := by decide +kernel
theorem dX11_diskNow_35 : decode cX11_diskNow 35 = .ok (.aload_n 0, 1) := by decide +kernel
theorem dX11_diskNow_36 : decode cX11_diskNow 36 = .ok (.getfield 89, 3) := by decide +kernel
theorem dX11_diskNow_39 : decode cX11_diskNow 39 = .ok (.iload_n 1, 1) := by decide +kernel
theorem dX11_diskNow_40 : decode cX11_diskNow 40 = .ok (.iaload, 1) := by decide +kernel
theorem dX11_diskNow_41 : decode cX11_diskNow 41 = .ok (.ireturn, 1) := by decide +kernel
theorem dX11_byteOf_0 : decode cX11_byteOf 0 = .ok (.iload_n 2, 1) := by decide +kernel
theorem dX11_byteOf_1 : decode cX11_byteOf 1 = .ok (.aload_n 0, 1) := by decide +kernel
theorem dX11_byteOf_2 : decode cX11_byteOf 2 = .ok (.getfield 80, 3) := by decide +kernel
theorem dX11_byteOf_5 : decode cX11_byteOf 5 = .ok (.iload_n 1, 1) := by decide +kernel
theorem dX11_byteOf_6 : decode cX11_byteOf 6 = .ok (.iaload, 1) := by decide +kernel
theorem dX11_byteOf_7 : decode cX11_byteOf 7 = .ok (.if_icmp .eq 23, 3) := by decide +kernel
theorem dX11_byteOf_10 : decode cX11_byteOf 10 = .ok (.aload_n 0, 1) := by decide +kernel
theorem dX11_byteOf_11 : decode cX11_byteOf 11 = .ok (.getfield 125, 3) := by decide +kernel
theorem dX11_byteOf_14 : decode cX11_byteOf 14 = .ok (.sipush 214, 3) := by decide +kernel
theorem dX11_byteOf_17 : decode cX11_byteOf 17 = .ok (.aload_n 0, 1) := by decide +kernel
theorem dX11_byteOf_18 : decode cX11_byteOf 18 = .ok (.getfield 101, 3) := by decide +kernel
theorem dX11_byteOf_21 : decode cX11_byteOf 21 = .ok (.iconst 5, 1) := by decide +kernel
theorem dX11_byteOf_22 : decode cX11_byteOf 22 = .ok (.iload_n 1, 1) := by decide +kernel
theorem dX11_byteOf_23 : decode cX11_byteOf 23 = .ok (.imul, 1) := by decide +kernel
theorem dX11_byteOf_24 : decode cX11_byteOf 24 = .ok (.iload_n 2, 1) := by decide +kernel
theorem dX11_byteOf_25 : decode cX11_byteOf 25 = .ok (.iadd, 1) := by decide +kernel
theorem dX11_byteOf_26 : decode cX11_byteOf 26 = .ok (.iaload, 1) := by decide +kernel
theorem dX11_byteOf_27 : decode cX11_byteOf 27 = .ok (.iadd, 1) := by decide +kernel
theorem dX11_byteOf_28 : decode cX11_byteOf 28 = .ok (.iaload, 1) := by decide +kernel
theorem dX11_byteOf_29 : decode cX11_byteOf 29 = .ok (.ireturn, 1) := by decide +kernel
theorem dX11_byteOf_30 : decode cX11_byteOf 30 = .ok (.iconst 0, 1) := by decide +kernel
theorem dX11_byteOf_31 : decode cX11_byteOf 31 = .ok (.istore_n 3, 1) := by decide +kernel
theorem dX11_byteOf_32 : decode cX11_byteOf 32 = .ok (.iconst 0, 1) := by decide +kernel
theorem dX11_byteOf_33 : decode cX11_byteOf 33 = .ok (.istore 4, 2) := by decide +kernel
theorem dX11_byteOf_35 : decode cX11_byteOf 35 = .ok (.iload 4, 2) := by decide +kernel
theorem dX11_byteOf_37 : decode cX11_byteOf 37 = .ok (.aload_n 0, 1) := by decide +kernel
theorem dX11_byteOf_38 : decode cX11_byteOf 38 = .ok (.getfield 74, 3) := by decide +kernel
theorem dX11_byteOf_41 : decode cX11_byteOf 41 = .ok (.iload_n 1, 1) := by decide +kernel
theorem dX11_byteOf_42 : decode cX11_byteOf 42 = .ok (.iaload, 1) := by decide +kernel
theorem dX11_byteOf_43 : decode cX11_byteOf 43 = .ok (.if_icmp .ge 38, 3) := by decide +kernel
theorem dX11_byteOf_46 : decode cX11_byteOf 46 = .ok (.iload 4, 2) := by decide +kernel
theorem dX11_byteOf_48 : decode cX11_byteOf 48 = .ok (.iload_n 2, 1) := by decide +kernel
theorem dX11_byteOf_49 : decode cX11_byteOf 49 = .ok (.if_icmp .eq 26, 3) := by decide +kernel
theorem dX11_byteOf_52 : decode cX11_byteOf 52 = .ok (.iload_n 3, 1) := by decide +kernel
theorem dX11_byteOf_53 : decode cX11_byteOf 53 = .ok (.aload_n 0, 1) := by decide +kernel
theorem dX11_byteOf_54 : decode cX11_byteOf 54 = .ok (.getfield 125, 3) := by decide +kernel
theorem dX11_byteOf_57 : decode cX11_byteOf 57 = .ok (.sipush 214, 3) := by decide +kernel
theorem dX11_byteOf_60 : decode cX11_byteOf 60 = .ok (.aload_n 0, 1) := by decide +kernel
theorem dX11_byteOf_61 : decode cX11_byteOf 61 = .ok (.getfield 101, 3) := by decide +kernel
theorem dX11_byteOf_64 : decode cX11_byteOf 64 = .ok (.iconst 5, 1) := by decide +kernel
theorem dX11_byteOf_65 : decode cX11_byteOf 65 = .ok (.iload_n 1, 1) := by decide +kernel
theorem dX11_byteOf_66 : decode cX11_byteOf 66 = .ok (.imul, 1) := by decide +kernel
theorem dX11_byteOf_67 : decode cX11_byteOf 67 = .ok (.iload 4, 2) := by decide +kernel
theorem dX11_byteOf_69 : decode cX11_byteOf 69 = .ok (.iadd, 1) := by decide +kernel
theorem dX11_byteOf_70 : decode cX11_byteOf 70 = .ok (.iaload, 1) := by decide +kernel
theorem dX11_byteOf_71 : decode cX11_byteOf 71 = .ok (.iadd, 1) := by decide +kernel
theorem dX11_byteOf_72 : decode cX11_byteOf 72 = .ok (.iaload, 1) := by decide +kernel
theorem dX11_byteOf_73 : decode cX11_byteOf 73 = .ok (.ixor, 1) := by decide +kernel
theorem dX11_byteOf_74 : decode cX11_byteOf 74 = .ok (.istore_n 3, 1) := by decide +kernel
theorem dX11_byteOf_75 : decode cX11_byteOf 75 = .ok (.iinc 4 1, 3) := by decide +kernel
theorem dX11_byteOf_78 : decode cX11_byteOf 78 = .ok (.goto (-43), 3) := by decide +kernel
theorem dX11_byteOf_81 : decode cX11_byteOf 81 = .ok (.iload_n 3, 1) := by decide +kernel
theorem dX11_byteOf_82 : decode cX11_byteOf 82 = .ok (.ireturn, 1) := by decide +kernel
theorem dX11_loads0_0 : decode cX11_loads0 0 = .ok (.aload_n 0, 1) := by decide +kernel
theorem dX11_loads0_1 : decode cX11_loads0 1 = .ok (.iload_n 1, 1) := by decide +kernel
theorem dX11_loads0_2 : decode cX11_loads0 2 = .ok (.invokevirtual 358, 3) := by decide +kernel
theorem dX11_loads0_5 : decode cX11_loads0 5 = .ok (.istore_n 3, 1) := by decide +kernel
theorem dX11_loads0_6 : decode cX11_loads0 6 = .ok (.iload_n 3, 1) := by decide +kernel
theorem dX11_loads0_7 : decode cX11_loads0 7 = .ok (.ifCond .lt 15, 3) := by decide +kernel
theorem dX11_loads0_10 : decode cX11_loads0 10 = .ok (.aload_n 0, 1) := by decide +kernel
theorem dX11_loads0_11 : decode cX11_loads0 11 = .ok (.getfield 125, 3) := by decide +kernel
theorem dX11_loads0_14 : decode cX11_loads0 14 = .ok (.iconst 1, 1) := by decide +kernel
theorem dX11_loads0_15 : decode cX11_loads0 15 = .ok (.iload_n 3, 1) := by decide +kernel
theorem dX11_loads0_16 : decode cX11_loads0 16 = .ok (.iadd, 1) := by decide +kernel
theorem dX11_loads0_17 : decode cX11_loads0 17 = .ok (.dup2, 1) := by decide +kernel
theorem dX11_loads0_18 : decode cX11_loads0 18 = .ok (.iaload, 1) := by decide +kernel
theorem dX11_loads0_19 : decode cX11_loads0 19 = .ok (.iload_n 2, 1) := by decide +kernel
theorem dX11_loads0_20 : decode cX11_loads0 20 = .ok (.iadd, 1) := by decide +kernel
theorem dX11_loads0_21 : decode cX11_loads0 21 = .ok (.iastore, 1) := by decide +kernel
theorem dX11_loads0_22 : decode cX11_loads0 22 = .ok (.return_, 1) := by decide +kernel
theorem dX11_allLoads_0 : decode cX11_allLoads 0 = .ok (.iconst 0, 1) := by decide +kernel
theorem dX11_allLoads_1 : decode cX11_allLoads 1 = .ok (.istore_n 1, 1) := by decide +kernel
theorem dX11_allLoads_2 : decode cX11_allLoads 2 = .ok (.iconst 0, 1) := by decide +kernel
theorem dX11_allLoads_3 : decode cX11_allLoads 3 = .ok (.istore_n 2, 1) := by decide +kernel
theorem dX11_allLoads_4 : decode cX11_allLoads 4 = .ok (.iload_n 2, 1) := by decide +kernel
theorem dX11_allLoads_5 : decode cX11_allLoads 5 = .ok (.bipush 13, 2) := by decide +kernel
theorem dX11_allLoads_7 : decode cX11_allLoads 7 = .ok (.if_icmp .ge 20, 3) := by decide +kernel
theorem dX11_allLoads_10 : decode cX11_allLoads 10 = .ok (.iload_n 1, 1) := by decide +kernel
theorem dX11_allLoads_11 : decode cX11_allLoads 11 = .ok (.aload_n 0, 1) := by decide +kernel
theorem dX11_allLoads_12 : decode cX11_allLoads 12 = .ok (.getfield 125, 3) := by decide +kernel
theorem dX11_allLoads_15 : decode cX11_allLoads 15 = .ok (.iconst 1, 1) := by decide +kernel
theorem dX11_allLoads_16 : decode cX11_allLoads 16 = .ok (.iload_n 2, 1) := by decide +kernel
theorem dX11_allLoads_17 : decode cX11_allLoads 17 = .ok (.iadd, 1) := by decide +kernel
theorem dX11_allLoads_18 : decode cX11_allLoads 18 = .ok (.iaload, 1) := by decide +kernel
theorem dX11_allLoads_19 : decode cX11_allLoads 19 = .ok (.iadd, 1) := by decide +kernel
theorem dX11_allLoads_20 : decode cX11_allLoads 20 = .ok (.istore_n 1, 1) := by decide +kernel
theorem dX11_allLoads_21 : decode cX11_allLoads 21 = .ok (.iinc 2 1, 3) := by decide +kernel
theorem dX11_allLoads_24 : decode cX11_allLoads 24 = .ok (.goto (-20), 3) := by decide +kernel
theorem dX11_allLoads_27 : decode cX11_allLoads 27 = .ok (.iload_n 1, 1) := by decide +kernel
theorem dX11_allLoads_28 : decode cX11_allLoads 28 = .ok (.ireturn, 1) := by decide +kernel
theorem dX11_deadOnes_0 : decode cX11_deadOnes 0 = .ok (.iconst 0, 1) := by decide +kernel
theorem dX11_deadOnes_1 : decode cX11_deadOnes 1 = .ok (.istore_n 1, 1) := by decide +kernel
theorem dX11_deadOnes_2 : decode cX11_deadOnes 2 = .ok (.iconst 0, 1) := by decide +kernel
theorem dX11_deadOnes_3 : decode cX11_deadOnes 3 = .ok (.istore_n 2, 1) := by decide +kernel
theorem dX11_deadOnes_4 : decode cX11_deadOnes 4 = .ok (.iload_n 2, 1) := by decide +kernel
theorem dX11_deadOnes_5 : decode cX11_deadOnes 5 = .ok (.aload_n 0, 1) := by decide +kernel
theorem dX11_deadOnes_6 : decode cX11_deadOnes 6 = .ok (.getfield 71, 3) := by decide +kernel
theorem dX11_deadOnes_9 : decode cX11_deadOnes 9 = .ok (.iconst 0, 1) := by decide +kernel
theorem dX11_deadOnes_10 : decode cX11_deadOnes 10 = .ok (.iaload, 1) := by decide +kernel
theorem dX11_deadOnes_11 : decode cX11_deadOnes 11 = .ok (.if_icmp .ge 25, 3) := by decide +kernel
theorem dX11_deadOnes_14 : decode cX11_deadOnes 14 = .ok (.iload_n 1, 1) := by decide +kernel
theorem dX11_deadOnes_15 : decode cX11_deadOnes 15 = .ok (.aload_n 0, 1) := by decide +kernel
theorem dX11_deadOnes_16 : decode cX11_deadOnes 16 = .ok (.iload_n 2, 1) := by decide +kernel
theorem dX11_deadOnes_17 : decode cX11_deadOnes 17 = .ok (.invokevirtual 361, 3) := by decide +kernel
theorem dX11_deadOnes_20 : decode cX11_deadOnes 20 = .ok (.ifCond .eq 7, 3) := by decide +kernel
theorem dX11_deadOnes_23 : decode cX11_deadOnes 23 = .ok (.iconst 1, 1) := by decide +kernel
theorem dX11_deadOnes_24 : decode cX11_deadOnes 24 = .ok (.goto 4, 3) := by decide +kernel
theorem dX11_deadOnes_27 : decode cX11_deadOnes 27 = .ok (.iconst 0, 1) := by decide +kernel
theorem dX11_deadOnes_28 : decode cX11_deadOnes 28 = .ok (.iadd, 1) := by decide +kernel
theorem dX11_deadOnes_29 : decode cX11_deadOnes 29 = .ok (.istore_n 1, 1) := by decide +kernel
theorem dX11_deadOnes_30 : decode cX11_deadOnes 30 = .ok (.iinc 2 1, 3) := by decide +kernel
theorem dX11_deadOnes_33 : decode cX11_deadOnes 33 = .ok (.goto (-29), 3) := by decide +kernel
theorem dX11_deadOnes_36 : decode cX11_deadOnes 36 = .ok (.iload_n 1, 1) := by decide +kernel
theorem dX11_deadOnes_37 : decode cX11_deadOnes 37 = .ok (.ireturn, 1) := by decide +kernel
theorem dX11_thereOn_0 : decode cX11_thereOn 0 = .ok (.iconst 0, 1) := by decide +kernel
theorem dX11_thereOn_1 : decode cX11_thereOn 1 = .ok (.istore_n 2, 1) := by decide +kernel
theorem dX11_thereOn_2 : decode cX11_thereOn 2 = .ok (.iconst 0, 1) := by decide +kernel
theorem dX11_thereOn_3 : decode cX11_thereOn 3 = .ok (.istore_n 3, 1) := by decide +kernel
theorem dX11_thereOn_4 : decode cX11_thereOn 4 = .ok (.iload_n 3, 1) := by decide +kernel
theorem dX11_thereOn_5 : decode cX11_thereOn 5 = .ok (.aload_n 0, 1) := by decide +kernel
theorem dX11_thereOn_6 : decode cX11_thereOn 6 = .ok (.getfield 71, 3) := by decide +kernel
theorem dX11_thereOn_9 : decode cX11_thereOn 9 = .ok (.iconst 0, 1) := by decide +kernel
theorem dX11_thereOn_10 : decode cX11_thereOn 10 = .ok (.iaload, 1) := by decide +kernel
theorem dX11_thereOn_11 : decode cX11_thereOn 11 = .ok (.if_icmp .ge 51, 3) := by decide +kernel
theorem dX11_thereOn_14 : decode cX11_thereOn 14 = .ok (.iconst 0, 1) := by decide +kernel
theorem dX11_thereOn_15 : decode cX11_thereOn 15 = .ok (.istore 4, 2) := by decide +kernel
theorem dX11_thereOn_17 : decode cX11_thereOn 17 = .ok (.iload 4, 2) := by decide +kernel
theorem dX11_thereOn_19 : decode cX11_thereOn 19 = .ok (.aload_n 0, 1) := by decide +kernel
theorem dX11_thereOn_20 : decode cX11_thereOn 20 = .ok (.getfield 74, 3) := by decide +kernel
theorem dX11_thereOn_23 : decode cX11_thereOn 23 = .ok (.iload_n 3, 1) := by decide +kernel
theorem dX11_thereOn_24 : decode cX11_thereOn 24 = .ok (.iaload, 1) := by decide +kernel
theorem dX11_thereOn_25 : decode cX11_thereOn 25 = .ok (.if_icmp .ge 31, 3) := by decide +kernel
theorem dX11_thereOn_28 : decode cX11_thereOn 28 = .ok (.iload_n 2, 1) := by decide +kernel
theorem dX11_thereOn_29 : decode cX11_thereOn 29 = .ok (.aload_n 0, 1) := by decide +kernel
theorem dX11_thereOn_30 : decode cX11_thereOn 30 = .ok (.iconst 5, 1) := by decide +kernel
theorem dX11_thereOn_31 : decode cX11_thereOn 31 = .ok (.iload_n 3, 1) := by decide +kernel
theorem dX11_thereOn_32 : decode cX11_thereOn 32 = .ok (.imul, 1) := by decide +kernel
theorem dX11_thereOn_33 : decode cX11_thereOn 33 = .ok (.iload 4, 2) := by decide +kernel
theorem dX11_thereOn_35 : decode cX11_thereOn 35 = .ok (.iadd, 1) := by decide +kernel
theorem dX11_thereOn_36 : decode cX11_thereOn 36 = .ok (.invokevirtual 358, 3) := by decide +kernel
theorem dX11_thereOn_39 : decode cX11_thereOn 39 = .ok (.iload_n 1, 1) := by decide +kernel
theorem dX11_thereOn_40 : decode cX11_thereOn 40 = .ok (.if_icmp .ne 7, 3) := by decide +kernel
theorem dX11_thereOn_43 : decode cX11_thereOn 43 = .ok (.iconst 1, 1) := by decide +kernel
theorem dX11_thereOn_44 : decode cX11_thereOn 44 = .ok (.goto 4, 3) := by decide +kernel
theorem dX11_thereOn_47 : decode cX11_thereOn 47 = .ok (.iconst 0, 1) := by decide +kernel
theorem dX11_thereOn_48 : decode cX11_thereOn 48 = .ok (.iadd, 1) := by decide +kernel
theorem dX11_thereOn_49 : decode cX11_thereOn 49 = .ok (.istore_n 2, 1) := by decide +kernel
theorem dX11_thereOn_50 : decode cX11_thereOn 50 = .ok (.iinc 4 1, 3) := by decide +kernel
theorem dX11_thereOn_53 : decode cX11_thereOn 53 = .ok (.goto (-36), 3) := by decide +kernel
theorem dX11_thereOn_56 : decode cX11_thereOn 56 = .ok (.iinc 3 1, 3) := by decide +kernel
theorem dX11_thereOn_59 : decode cX11_thereOn 59 = .ok (.goto (-55), 3) := by decide +kernel
theorem dX11_thereOn_62 : decode cX11_thereOn 62 = .ok (.iload_n 2, 1) := by decide +kernel
theorem dX11_thereOn_63 : decode cX11_thereOn 63 = .ok (.ireturn, 1) := by decide +kernel
theorem dX11_canRead_0 : decode cX11_canRead 0 = .ok (.aload_n 0, 1) := by decide +kernel
theorem dX11_canRead_1 : decode cX11_canRead 1 = .ok (.getfield 125, 3) := by decide +kernel
theorem dX11_canRead_4 : decode cX11_canRead 4 = .ok (.bipush 14, 2) := by decide +kernel
theorem dX11_canRead_6 : decode cX11_canRead 6 = .ok (.aload_n 0, 1) := by decide +kernel
theorem dX11_canRead_7 : decode cX11_canRead 7 = .ok (.getfield 95, 3) := by decide +kernel
theorem dX11_canRead_10 : decode cX11_canRead 10 = .ok (.iload_n 1, 1) := by decide +kernel
theorem dX11_canRead_11 : decode cX11_canRead 11 = .ok (.iaload, 1) := by decide +kernel
theorem dX11_canRead_12 : decode cX11_canRead 12 = .ok (.iadd, 1) := by decide +kernel
theorem dX11_canRead_13 : decode cX11_canRead 13 = .ok (.iaload, 1) := by decide +kernel
theorem dX11_canRead_14 : decode cX11_canRead 14 = .ok (.iconst 2, 1) := by decide +kernel
theorem dX11_canRead_15 : decode cX11_canRead 15 = .ok (.if_icmp .ne 18, 3) := by decide +kernel
theorem dX11_canRead_18 : decode cX11_canRead 18 = .ok (.aload_n 0, 1) := by decide +kernel
theorem dX11_canRead_19 : decode cX11_canRead 19 = .ok (.aload_n 0, 1) := by decide +kernel
theorem dX11_canRead_20 : decode cX11_canRead 20 = .ok (.getfield 95, 3) := by decide +kernel
theorem dX11_canRead_23 : decode cX11_canRead 23 = .ok (.iload_n 1, 1) := by decide +kernel
theorem dX11_canRead_24 : decode cX11_canRead 24 = .ok (.iaload, 1) := by decide +kernel
theorem dX11_canRead_25 : decode cX11_canRead 25 = .ok (.iconst 5, 1) := by decide +kernel
theorem dX11_canRead_26 : decode cX11_canRead 26 = .ok (.idiv, 1) := by decide +kernel
theorem dX11_canRead_27 : decode cX11_canRead 27 = .ok (.invokevirtual 361, 3) := by decide +kernel
theorem dX11_canRead_30 : decode cX11_canRead 30 = .ok (.ifCond .ne 7, 3) := by decide +kernel
theorem dX11_canRead_33 : decode cX11_canRead 33 = .ok (.iconst 1, 1) := by decide +kernel
theorem dX11_canRead_34 : decode cX11_canRead 34 = .ok (.goto 4, 3) := by decide +kernel
theorem dX11_canRead_37 : decode cX11_canRead 37 = .ok (.iconst 0, 1) := by decide +kernel
theorem dX11_canRead_38 : decode cX11_canRead 38 = .ok (.ireturn, 1) := by decide +kernel
theorem dX11_costOf_0 : decode cX11_costOf 0 = .ok (.aload_n 0, 1) := by decide +kernel
theorem dX11_costOf_1 : decode cX11_costOf 1 = .ok (.getfield 125, 3) := by decide +kernel
theorem dX11_costOf_4 : decode cX11_costOf 4 = .ok (.bipush 14, 2) := by decide +kernel
theorem dX11_costOf_6 : decode cX11_costOf 6 = .ok (.aload_n 0, 1) := by decide +kernel
theorem dX11_costOf_7 : decode cX11_costOf 7 = .ok (.getfield 95, 3) := by decide +kernel
theorem dX11_costOf_10 : decode cX11_costOf 10 = .ok (.iload_n 1, 1) := by decide +kernel
theorem dX11_costOf_11 : decode cX11_costOf 11 = .ok (.iaload, 1) := by decide +kernel
theorem dX11_costOf_12 : decode cX11_costOf 12 = .ok (.iadd, 1) := by decide +kernel
theorem dX11_costOf_13 : decode cX11_costOf 13 = .ok (.iaload, 1) := by decide +kernel
theorem dX11_costOf_14 : decode cX11_costOf 14 = .ok (.iconst 2, 1) := by decide +kernel
theorem dX11_costOf_15 : decode cX11_costOf 15 = .ok (.if_icmp .eq 7, 3) := by decide +kernel
theorem dX11_costOf_18 : decode cX11_costOf 18 = .ok (.iconst 1, 1) := by decide +kernel
theorem dX11_costOf_19 : decode cX11_costOf 19 = .ok (.goto 18, 3) := by decide +kernel
theorem dX11_costOf_22 : decode cX11_costOf 22 = .ok (.aload_n 0, 1) := by decide +kernel
theorem dX11_costOf_23 : decode cX11_costOf 23 = .ok (.getfield 74, 3) := by decide +kernel
theorem dX11_costOf_26 : decode cX11_costOf 26 = .ok (.aload_n 0, 1) := by decide +kernel
theorem dX11_costOf_27 : decode cX11_costOf 27 = .ok (.getfield 95, 3) := by decide +kernel
theorem dX11_costOf_30 : decode cX11_costOf 30 = .ok (.iload_n 1, 1) := by decide +kernel
theorem dX11_costOf_31 : decode cX11_costOf 31 = .ok (.iaload, 1) := by decide +kernel
theorem dX11_costOf_32 : decode cX11_costOf 32 = .ok (.iconst 5, 1) := by decide +kernel
theorem dX11_costOf_33 : decode cX11_costOf 33 = .ok (.idiv, 1) := by decide +kernel
theorem dX11_costOf_34 : decode cX11_costOf 34 = .ok (.iaload, 1) := by decide +kernel
theorem dX11_costOf_35 : decode cX11_costOf 35 = .ok (.iconst 1, 1) := by decide +kernel
theorem dX11_costOf_36 : decode cX11_costOf 36 = .ok (.isub, 1) := by decide +kernel
theorem dX11_costOf_37 : decode cX11_costOf 37 = .ok (.ireturn, 1) := by decide +kernel
theorem dX11_readsDatum_0 : decode cX11_readsDatum 0 = .ok (.aload_n 0, 1) := by decide +kernel
theorem dX11_readsDatum_1 : decode cX11_readsDatum 1 = .ok (.getfield 95, 3) := by decide +kernel
theorem dX11_readsDatum_4 : decode cX11_readsDatum 4 = .ok (.iload_n 1, 1) := by decide +kernel
theorem dX11_readsDatum_5 : decode cX11_readsDatum 5 = .ok (.iaload, 1) := by decide +kernel
theorem dX11_readsDatum_6 : decode cX11_readsDatum 6 = .ok (.istore_n 2, 1) := by decide +kernel
theorem dX11_readsDatum_7 : decode cX11_readsDatum 7 = .ok (.iload_n 2, 1) := by decide +kernel
theorem dX11_readsDatum_8 : decode cX11_readsDatum 8 = .ok (.iconst 5, 1) := by decide +kernel
theorem dX11_readsDatum_9 : decode cX11_readsDatum 9 = .ok (.idiv, 1) := by decide +kernel
theorem dX11_readsDatum_10 : decode cX11_readsDatum 10 = .ok (.istore_n 3, 1) := by decide +kernel
theorem dX11_readsDatum_11 : decode cX11_readsDatum 11 = .ok (.aload_n 0, 1) := by decide +kernel
theorem dX11_readsDatum_12 : decode cX11_readsDatum 12 = .ok (.getfield 125, 3) := by decide +kernel
theorem dX11_readsDatum_15 : decode cX11_readsDatum 15 = .ok (.bipush 14, 2) := by decide +kernel
theorem dX11_readsDatum_17 : decode cX11_readsDatum 17 = .ok (.iload_n 2, 1) := by decide +kernel
theorem dX11_readsDatum_18 : decode cX11_readsDatum 18 = .ok (.iadd, 1) := by decide +kernel
theorem dX11_readsDatum_19 : decode cX11_readsDatum 19 = .ok (.iaload, 1) := by decide +kernel
theorem dX11_readsDatum_20 : decode cX11_readsDatum 20 = .ok (.iconst 2, 1) := by decide +kernel
theorem dX11_readsDatum_21 : decode cX11_readsDatum 21 = .ok (.if_icmp .eq 12, 3) := by decide +kernel
theorem dX11_readsDatum_24 : decode cX11_readsDatum 24 = .ok (.aload_n 0, 1) := by decide +kernel
theorem dX11_readsDatum_25 : decode cX11_readsDatum 25 = .ok (.iload_n 2, 1) := by decide +kernel
theorem dX11_readsDatum_26 : decode cX11_readsDatum 26 = .ok (.iconst 1, 1) := by decide +kernel
theorem dX11_readsDatum_27 : decode cX11_readsDatum 27 = .ok (.invokevirtual 364, 3) := by decide +kernel
theorem dX11_readsDatum_30 : decode cX11_readsDatum 30 = .ok (.goto 34, 3) := by decide +kernel
theorem dX11_readsDatum_33 : decode cX11_readsDatum 33 = .ok (.iconst 0, 1) := by decide +kernel
theorem dX11_readsDatum_34 : decode cX11_readsDatum 34 = .ok (.istore 4, 2) := by decide +kernel
theorem dX11_readsDatum_36 : decode cX11_readsDatum 36 = .ok (.iload 4, 2) := by decide +kernel
theorem dX11_readsDatum_38 : decode cX11_readsDatum 38 = .ok (.aload_n 0, 1) := by decide +kernel
theorem dX11_readsDatum_39 : decode cX11_readsDatum 39 = .ok (.getfield 74, 3) := by decide +kernel
theorem dX11_readsDatum_42 : decode cX11_readsDatum 42 = .ok (.iload_n 3, 1) := by decide +kernel
theorem dX11_readsDatum_43 : decode cX11_readsDatum 43 = .ok (.iaload, 1) := by decide +kernel
theorem dX11_readsDatum_44 : decode cX11_readsDatum 44 = .ok (.if_icmp .ge 20, 3) := by decide +kernel
theorem dX11_readsDatum_47 : decode cX11_readsDatum 47 = .ok (.aload_n 0, 1) := by decide +kernel
theorem dX11_readsDatum_48 : decode cX11_readsDatum 48 = .ok (.iconst 5, 1) := by decide +kernel
theorem dX11_readsDatum_49 : decode cX11_readsDatum 49 = .ok (.iload_n 3, 1) := by decide +kernel
theorem dX11_readsDatum_50 : decode cX11_readsDatum 50 = .ok (.imul, 1) := by decide +kernel
theorem dX11_readsDatum_51 : decode cX11_readsDatum 51 = .ok (.iload 4, 2) := by decide +kernel
theorem dX11_readsDatum_53 : decode cX11_readsDatum 53 = .ok (.iadd, 1) := by decide +kernel
theorem dX11_readsDatum_54 : decode cX11_readsDatum 54 = .ok (.iconst 1, 1) := by decide +kernel
theorem dX11_readsDatum_55 : decode cX11_readsDatum 55 = .ok (.invokevirtual 364, 3) := by decide +kernel
theorem dX11_readsDatum_58 : decode cX11_readsDatum 58 = .ok (.iinc 4 1, 3) := by decide +kernel
theorem dX11_readsDatum_61 : decode cX11_readsDatum 61 = .ok (.goto (-25), 3) := by decide +kernel
theorem dX11_readsDatum_64 : decode cX11_readsDatum 64 = .ok (.aload_n 0, 1) := by decide +kernel
theorem dX11_readsDatum_65 : decode cX11_readsDatum 65 = .ok (.getfield 125, 3) := by decide +kernel
theorem dX11_readsDatum_68 : decode cX11_readsDatum 68 = .ok (.sipush 214, 3) := by decide +kernel
theorem dX11_readsDatum_71 : decode cX11_readsDatum 71 = .ok (.iload_n 1, 1) := by decide +kernel
theorem dX11_readsDatum_72 : decode cX11_readsDatum 72 = .ok (.iadd, 1) := by decide +kernel
theorem dX11_readsDatum_73 : decode cX11_readsDatum 73 = .ok (.iaload, 1) := by decide +kernel
theorem dX11_readsDatum_74 : decode cX11_readsDatum 74 = .ok (.ireturn, 1) := by decide +kernel
theorem dX11_canWrite_0 : decode cX11_canWrite 0 = .ok (.aload_n 0, 1) := by decide +kernel
theorem dX11_canWrite_1 : decode cX11_canWrite 1 = .ok (.aload_n 0, 1) := by decide +kernel
theorem dX11_canWrite_2 : decode cX11_canWrite 2 = .ok (.getfield 95, 3) := by decide +kernel
theorem dX11_canWrite_5 : decode cX11_canWrite 5 = .ok (.iload_n 1, 1) := by decide +kernel
theorem dX11_canWrite_6 : decode cX11_canWrite 6 = .ok (.iaload, 1) := by decide +kernel
theorem dX11_canWrite_7 : decode cX11_canWrite 7 = .ok (.iconst 5, 1) := by decide +kernel
theorem dX11_canWrite_8 : decode cX11_canWrite 8 = .ok (.idiv, 1) := by decide +kernel
theorem dX11_canWrite_9 : decode cX11_canWrite 9 = .ok (.invokevirtual 361, 3) := by decide +kernel
theorem dX11_canWrite_12 : decode cX11_canWrite 12 = .ok (.ifCond .ne 7, 3) := by decide +kernel
theorem dX11_canWrite_15 : decode cX11_canWrite 15 = .ok (.iconst 1, 1) := by decide +kernel
theorem dX11_canWrite_16 : decode cX11_canWrite 16 = .ok (.goto 4, 3) := by decide +kernel
theorem dX11_canWrite_19 : decode cX11_canWrite 19 = .ok (.iconst 0, 1) := by decide +kernel
theorem dX11_canWrite_20 : decode cX11_canWrite 20 = .ok (.ireturn, 1) := by decide +kernel
theorem dX11_priceOf_0 : decode cX11_priceOf 0 = .ok (.aload_n 0, 1) := by decide +kernel
theorem dX11_priceOf_1 : decode cX11_priceOf 1 = .ok (.getfield 95, 3) := by decide +kernel
theorem dX11_priceOf_4 : decode cX11_priceOf 4 = .ok (.iload_n 1, 1) := by decide +kernel
theorem dX11_priceOf_5 : decode cX11_priceOf 5 = .ok (.iaload, 1) := by decide +kernel
theorem dX11_priceOf_6 : decode cX11_priceOf 6 = .ok (.iconst 5, 1) := by decide +kernel
theorem dX11_priceOf_7 : decode cX11_priceOf 7 = .ok (.idiv, 1) := by decide +kernel
theorem dX11_priceOf_8 : decode cX11_priceOf 8 = .ok (.istore_n 2, 1) := by decide +kernel
theorem dX11_priceOf_9 : decode cX11_priceOf 9 = .ok (.aload_n 0, 1) := by decide +kernel
theorem dX11_priceOf_10 : decode cX11_priceOf 10 = .ok (.getfield 125, 3) := by decide +kernel
theorem dX11_priceOf_13 : decode cX11_priceOf 13 = .ok (.bipush 14, 2) := by decide +kernel
theorem dX11_priceOf_15 : decode cX11_priceOf 15 = .ok (.iconst 5, 1) := by decide +kernel
theorem dX11_priceOf_16 : decode cX11_priceOf 16 = .ok (.iload_n 2, 1) := by decide +kernel
theorem dX11_priceOf_17 : decode cX11_priceOf 17 = .ok (.imul, 1) := by decide +kernel
theorem dX11_priceOf_18 : decode cX11_priceOf 18 = .ok (.iadd, 1) := by decide +kernel
theorem dX11_priceOf_19 : decode cX11_priceOf 19 = .ok (.aload_n 0, 1) := by decide +kernel
theorem dX11_priceOf_20 : decode cX11_priceOf 20 = .ok (.getfield 80, 3) := by decide +kernel
theorem dX11_priceOf_23 : decode cX11_priceOf 23 = .ok (.iload_n 2, 1) := by decide +kernel
theorem dX11_priceOf_24 : decode cX11_priceOf 24 = .ok (.iaload, 1) := by decide +kernel
theorem dX11_priceOf_25 : decode cX11_priceOf 25 = .ok (.iadd, 1) := by decide +kernel
theorem dX11_priceOf_26 : decode cX11_priceOf 26 = .ok (.iaload, 1) := by decide +kernel
theorem dX11_priceOf_27 : decode cX11_priceOf 27 = .ok (.iconst 2, 1) := by decide +kernel
theorem dX11_priceOf_28 : decode cX11_priceOf 28 = .ok (.if_icmp .ne 5, 3) := by decide +kernel
theorem dX11_priceOf_31 : decode cX11_priceOf 31 = .ok (.iconst 1, 1) := by decide +kernel
theorem dX11_priceOf_32 : decode cX11_priceOf 32 = .ok (.ireturn, 1) := by decide +kernel
theorem dX11_priceOf_33 : decode cX11_priceOf 33 = .ok (.aload_n 0, 1) := by decide +kernel
theorem dX11_priceOf_34 : decode cX11_priceOf 34 = .ok (.getfield 125, 3) := by decide +kernel
theorem dX11_priceOf_37 : decode cX11_priceOf 37 = .ok (.bipush 14, 2) := by decide +kernel
theorem dX11_priceOf_39 : decode cX11_priceOf 39 = .ok (.aload_n 0, 1) := by decide +kernel
theorem dX11_priceOf_40 : decode cX11_priceOf 40 = .ok (.getfield 95, 3) := by decide +kernel
theorem dX11_priceOf_43 : decode cX11_priceOf 43 = .ok (.iload_n 1, 1) := by decide +kernel
theorem dX11_priceOf_44 : decode cX11_priceOf 44 = .ok (.iaload, 1) := by decide +kernel
theorem dX11_priceOf_45 : decode cX11_priceOf 45 = .ok (.iadd, 1) := by decide +kernel
theorem dX11_priceOf_46 : decode cX11_priceOf 46 = .ok (.iaload, 1) := by decide +kernel
theorem dX11_priceOf_47 : decode cX11_priceOf 47 = .ok (.iconst 2, 1) := by decide +kernel
theorem dX11_priceOf_48 : decode cX11_priceOf 48 = .ok (.if_icmp .ne 14, 3) := by decide +kernel
theorem dX11_priceOf_51 : decode cX11_priceOf 51 = .ok (.aload_n 0, 1) := by decide +kernel
theorem dX11_priceOf_52 : decode cX11_priceOf 52 = .ok (.getfield 74, 3) := by decide +kernel
theorem dX11_priceOf_55 : decode cX11_priceOf 55 = .ok (.iload_n 2, 1) := by decide +kernel
theorem dX11_priceOf_56 : decode cX11_priceOf 56 = .ok (.iaload, 1) := by decide +kernel
theorem dX11_priceOf_57 : decode cX11_priceOf 57 = .ok (.iconst 1, 1) := by decide +kernel
theorem dX11_priceOf_58 : decode cX11_priceOf 58 = .ok (.isub, 1) := by decide +kernel
theorem dX11_priceOf_59 : decode cX11_priceOf 59 = .ok (.goto 4, 3) := by decide +kernel
theorem dX11_priceOf_62 : decode cX11_priceOf 62 = .ok (.iconst 4, 1) := by decide +kernel
theorem dX11_priceOf_63 : decode cX11_priceOf 63 = .ok (.ireturn, 1) := by decide +kernel
theorem dX11_writesDatum_0 : decode cX11_writesDatum 0 = .ok (.aload_n 0, 1) := by decide +kernel
theorem dX11_writesDatum_1 : decode cX11_writesDatum 1 = .ok (.getfield 95, 3) := by decide +kernel
theorem dX11_writesDatum_4 : decode cX11_writesDatum 4 = .ok (.iload_n 1, 1) := by decide +kernel
theorem dX11_writesDatum_5 : decode cX11_writesDatum 5 = .ok (.iaload, 1) := by decide +kernel
theorem dX11_writesDatum_6 : decode cX11_writesDatum 6 = .ok (.istore_n 3, 1) := by decide +kernel
theorem dX11_writesDatum_7 : decode cX11_writesDatum 7 = .ok (.iload_n 3, 1) := by decide +kernel
theorem dX11_writesDatum_8 : decode cX11_writesDatum 8 = .ok (.iconst 5, 1) := by decide +kernel
theorem dX11_writesDatum_9 : decode cX11_writesDatum 9 = .ok (.idiv, 1) := by decide +kernel
theorem dX11_writesDatum_10 : decode cX11_writesDatum 10 = .ok (.istore 4, 2) := by decide +kernel
theorem dX11_writesDatum_12 : decode cX11_writesDatum 12 = .ok (.aload_n 0, 1) := by decide +kernel
theorem dX11_writesDatum_13 : decode cX11_writesDatum 13 = .ok (.iload_n 1, 1) := by decide +kernel
theorem dX11_writesDatum_14 : decode cX11_writesDatum 14 = .ok (.invokevirtual 367, 3) := by decide +kernel
theorem dX11_writesDatum_17 : decode cX11_writesDatum 17 = .ok (.istore 5, 2) := by decide +kernel
theorem dX11_writesDatum_19 : decode cX11_writesDatum 19 = .ok (.aload_n 0, 1) := by decide +kernel
theorem dX11_writesDatum_20 : decode cX11_writesDatum 20 = .ok (.getfield 125, 3) := by decide +kernel
theorem dX11_writesDatum_23 : decode cX11_writesDatum 23 = .ok (.bipush 14, 2) := by decide +kernel
theorem dX11_writesDatum_25 : decode cX11_writesDatum 25 = .ok (.iload_n 3, 1) := by decide +kernel
theorem dX11_writesDatum_26 : decode cX11_writesDatum 26 = .ok (.iadd, 1) := by decide +kernel
theorem dX11_writesDatum_27 : decode cX11_writesDatum 27 = .ok (.iaload, 1) := by decide +kernel
theorem dX11_writesDatum_28 : decode cX11_writesDatum 28 = .ok (.iconst 2, 1) := by decide +kernel
theorem dX11_writesDatum_29 : decode cX11_writesDatum 29 = .ok (.if_icmp .ne 39, 3) := by decide +kernel
theorem dX11_writesDatum_32 : decode cX11_writesDatum 32 = .ok (.iconst 0, 1) := by decide +kernel
theorem dX11_writesDatum_33 : decode cX11_writesDatum 33 = .ok (.istore 6, 2) := by decide +kernel
theorem dX11_writesDatum_35 : decode cX11_writesDatum 35 = .ok (.iload 6, 2) := by decide +kernel
theorem dX11_writesDatum_37 : decode cX11_writesDatum 37 = .ok (.aload_n 0, 1) := by decide +kernel
theorem dX11_writesDatum_38 : decode cX11_writesDatum 38 = .ok (.getfield 74, 3) := by decide +kernel
theorem dX11_writesDatum_41 : decode cX11_writesDatum 41 = .ok (.iload 4, 2) := by decide +kernel
theorem dX11_writesDatum_43 : decode cX11_writesDatum 43 = .ok (.iaload, 1) := by decide +kernel
theorem dX11_writesDatum_44 : decode cX11_writesDatum 44 = .ok (.if_icmp .ge 21, 3) := by decide +kernel
theorem dX11_writesDatum_47 : decode cX11_writesDatum 47 = .ok (.aload_n 0, 1) := by decide +kernel
theorem dX11_writesDatum_48 : decode cX11_writesDatum 48 = .ok (.iconst 5, 1) := by decide +kernel
theorem dX11_writesDatum_49 : decode cX11_writesDatum 49 = .ok (.iload 4, 2) := by decide +kernel
theorem dX11_writesDatum_51 : decode cX11_writesDatum 51 = .ok (.imul, 1) := by decide +kernel
theorem dX11_writesDatum_52 : decode cX11_writesDatum 52 = .ok (.iload 6, 2) := by decide +kernel
theorem dX11_writesDatum_54 : decode cX11_writesDatum 54 = .ok (.iadd, 1) := by decide +kernel
theorem dX11_writesDatum_55 : decode cX11_writesDatum 55 = .ok (.iconst 1, 1) := by decide +kernel
theorem dX11_writesDatum_56 : decode cX11_writesDatum 56 = .ok (.invokevirtual 364, 3) := by decide +kernel
theorem dX11_writesDatum_59 : decode cX11_writesDatum 59 = .ok (.iinc 6 1, 3) := by decide +kernel
theorem dX11_writesDatum_62 : decode cX11_writesDatum 62 = .ok (.goto (-27), 3) := by decide +kernel
theorem dX11_writesDatum_65 : decode cX11_writesDatum 65 = .ok (.goto 59, 3) := by decide +kernel
theorem dX11_writesDatum_68 : decode cX11_writesDatum 68 = .ok (.aload_n 0, 1) := by decide +kernel
theorem dX11_writesDatum_69 : decode cX11_writesDatum 69 = .ok (.getfield 125, 3) := by decide +kernel
theorem dX11_writesDatum_72 : decode cX11_writesDatum 72 = .ok (.bipush 14, 2) := by decide +kernel
theorem dX11_writesDatum_74 : decode cX11_writesDatum 74 = .ok (.iconst 5, 1) := by decide +kernel
theorem dX11_writesDatum_75 : decode cX11_writesDatum 75 = .ok (.iload 4, 2) := by decide +kernel
theorem dX11_writesDatum_77 : decode cX11_writesDatum 77 = .ok (.imul, 1) := by decide +kernel
theorem dX11_writesDatum_78 : decode cX11_writesDatum 78 = .ok (.iadd, 1) := by decide +kernel
theorem dX11_writesDatum_79 : decode cX11_writesDatum 79 = .ok (.aload_n 0, 1) := by decide +kernel
theorem dX11_writesDatum_80 : decode cX11_writesDatum 80 = .ok (.getfield 80, 3) := by decide +kernel
theorem dX11_writesDatum_83 : decode cX11_writesDatum 83 = .ok (.iload 4, 2) := by decide +kernel
theorem dX11_writesDatum_85 : decode cX11_writesDatum 85 = .ok (.iaload, 1) := by decide +kernel
theorem dX11_writesDatum_86 : decode cX11_writesDatum 86 = .ok (.iadd, 1) := by decide +kernel
theorem dX11_writesDatum_87 : decode cX11_writesDatum 87 = .ok (.iaload, 1) := by decide +kernel
theorem dX11_writesDatum_88 : decode cX11_writesDatum 88 = .ok (.iconst 2, 1) := by decide +kernel
theorem dX11_writesDatum_89 : decode cX11_writesDatum 89 = .ok (.if_icmp .ne 12, 3) := by decide +kernel
theorem dX11_writesDatum_92 : decode cX11_writesDatum 92 = .ok (.aload_n 0, 1) := by decide +kernel
theorem dX11_writesDatum_93 : decode cX11_writesDatum 93 = .ok (.iload_n 3, 1) := by decide +kernel
theorem dX11_writesDatum_94 : decode cX11_writesDatum 94 = .ok (.iconst 1, 1) := by decide +kernel
theorem dX11_writesDatum_95 : decode cX11_writesDatum 95 = .ok (.invokevirtual 364, 3) := by decide +kernel
theorem dX11_writesDatum_98 : decode cX11_writesDatum 98 = .ok (.goto 26, 3) := by decide +kernel
theorem dX11_writesDatum_101 : decode cX11_writesDatum 101 = .ok (.aload_n 0, 1) := by decide +kernel
theorem dX11_writesDatum_102 : decode cX11_writesDatum 102 = .ok (.iload_n 3, 1) := by decide +kernel
theorem dX11_writesDatum_103 : decode cX11_writesDatum 103 = .ok (.iconst 2, 1) := by decide +kernel
theorem dX11_writesDatum_104 : decode cX11_writesDatum 104 = .ok (.invokevirtual 364, 3) := by decide +kernel
theorem dX11_writesDatum_107 : decode cX11_writesDatum 107 = .ok (.aload_n 0, 1) := by decide +kernel
theorem dX11_writesDatum_108 : decode cX11_writesDatum 108 = .ok (.iconst 5, 1) := by decide +kernel
theorem dX11_writesDatum_109 : decode cX11_writesDatum 109 = .ok (.iload 4, 2) := by decide +kernel
theorem dX11_writesDatum_111 : decode cX11_writesDatum 111 = .ok (.imul, 1) := by decide +kernel
theorem dX11_writesDatum_112 : decode cX11_writesDatum 112 = .ok (.aload_n 0, 1) := by decide +kernel
theorem dX11_writesDatum_113 : decode cX11_writesDatum 113 = .ok (.getfield 80, 3) := by decide +kernel
theorem dX11_writesDatum_116 : decode cX11_writesDatum 116 = .ok (.iload 4, 2) := by decide +kernel
theorem dX11_writesDatum_118 : decode cX11_writesDatum 118 = .ok (.iaload, 1) := by decide +kernel
theorem dX11_writesDatum_119 : decode cX11_writesDatum 119 = .ok (.iadd, 1) := by decide +kernel
theorem dX11_writesDatum_120 : decode cX11_writesDatum 120 = .ok (.iconst 2, 1) := by decide +kernel
theorem dX11_writesDatum_121 : decode cX11_writesDatum 121 = .ok (.invokevirtual 364, 3) := by decide +kernel
theorem dX11_writesDatum_124 : decode cX11_writesDatum 124 = .ok (.aload_n 0, 1) := by decide +kernel
theorem dX11_writesDatum_125 : decode cX11_writesDatum 125 = .ok (.getfield 125, 3) := by decide +kernel
theorem dX11_writesDatum_128 : decode cX11_writesDatum 128 = .ok (.sipush 214, 3) := by decide +kernel
theorem dX11_writesDatum_131 : decode cX11_writesDatum 131 = .ok (.iload_n 1, 1) := by decide +kernel
theorem dX11_writesDatum_132 : decode cX11_writesDatum 132 = .ok (.iadd, 1) := by decide +kernel
theorem dX11_writesDatum_133 : decode cX11_writesDatum 133 = .ok (.iload_n 2, 1) := by decide +kernel
theorem dX11_writesDatum_134 : decode cX11_writesDatum 134 = .ok (.iastore, 1) := by decide +kernel
theorem dX11_writesDatum_135 : decode cX11_writesDatum 135 = .ok (.iload 5, 2) := by decide +kernel
theorem dX11_writesDatum_137 : decode cX11_writesDatum 137 = .ok (.ireturn, 1) := by decide +kernel
theorem dX11_losesDisk_0 : decode cX11_losesDisk 0 = .ok (.iconst 0, 1) := by decide +kernel
theorem dX11_losesDisk_1 : decode cX11_losesDisk 1 = .ok (.istore_n 2, 1) := by decide +kernel
theorem dX11_losesDisk_2 : decode cX11_losesDisk 2 = .ok (.iconst 0, 1) := by decide +kernel
theorem dX11_losesDisk_3 : decode cX11_losesDisk 3 = .ok (.istore_n 3, 1) := by decide +kernel
theorem dX11_losesDisk_4 : decode cX11_losesDisk 4 = .ok (.iload_n 3, 1) := by decide +kernel
theorem dX11_losesDisk_5 : decode cX11_losesDisk 5 = .ok (.aload_n 0, 1) := by decide +kernel
theorem dX11_losesDisk_6 : decode cX11_losesDisk 6 = .ok (.getfield 71, 3) := by decide +kernel
theorem dX11_losesDisk_9 : decode cX11_losesDisk 9 = .ok (.iconst 0, 1) := by decide +kernel
theorem dX11_losesDisk_10 : decode cX11_losesDisk 10 = .ok (.iaload, 1) := by decide +kernel
theorem dX11_losesDisk_11 : decode cX11_losesDisk 11 = .ok (.if_icmp .ge 64, 3) := by decide +kernel
theorem dX11_losesDisk_14 : decode cX11_losesDisk 14 = .ok (.iconst 0, 1) := by decide +kernel
theorem dX11_losesDisk_15 : decode cX11_losesDisk 15 = .ok (.istore 4, 2) := by decide +kernel
theorem dX11_losesDisk_17 : decode cX11_losesDisk 17 = .ok (.iload 4, 2) := by decide +kernel
theorem dX11_losesDisk_19 : decode cX11_losesDisk 19 = .ok (.aload_n 0, 1) := by decide +kernel
theorem dX11_losesDisk_20 : decode cX11_losesDisk 20 = .ok (.getfield 74, 3) := by decide +kernel
theorem dX11_losesDisk_23 : decode cX11_losesDisk 23 = .ok (.iload_n 3, 1) := by decide +kernel
theorem dX11_losesDisk_24 : decode cX11_losesDisk 24 = .ok (.iaload, 1) := by decide +kernel
theorem dX11_losesDisk_25 : decode cX11_losesDisk 25 = .ok (.if_icmp .ge 44, 3) := by decide +kernel
theorem dX11_losesDisk_28 : decode cX11_losesDisk 28 = .ok (.aload_n 0, 1) := by decide +kernel
theorem dX11_losesDisk_29 : decode cX11_losesDisk 29 = .ok (.iconst 5, 1) := by decide +kernel
theorem dX11_losesDisk_30 : decode cX11_losesDisk 30 = .ok (.iload_n 3, 1) := by decide +kernel
theorem dX11_losesDisk_31 : decode cX11_losesDisk 31 = .ok (.imul, 1) := by decide +kernel
theorem dX11_losesDisk_32 : decode cX11_losesDisk 32 = .ok (.iload 4, 2) := by decide +kernel
theorem dX11_losesDisk_34 : decode cX11_losesDisk 34 = .ok (.iadd, 1) := by decide +kernel
theorem dX11_losesDisk_35 : decode cX11_losesDisk 35 = .ok (.invokevirtual 358, 3) := by decide +kernel
theorem dX11_losesDisk_38 : decode cX11_losesDisk 38 = .ok (.iload_n 1, 1) := by decide +kernel
theorem dX11_losesDisk_39 : decode cX11_losesDisk 39 = .ok (.if_icmp .eq 6, 3) := by decide +kernel
theorem dX11_losesDisk_42 : decode cX11_losesDisk 42 = .ok (.goto 21, 3) := by decide +kernel
theorem dX11_losesDisk_45 : decode cX11_losesDisk 45 = .ok (.aload_n 0, 1) := by decide +kernel
theorem dX11_losesDisk_46 : decode cX11_losesDisk 46 = .ok (.getfield 125, 3) := by decide +kernel
theorem dX11_losesDisk_49 : decode cX11_losesDisk 49 = .ok (.bipush 14, 2) := by decide +kernel
theorem dX11_losesDisk_51 : decode cX11_losesDisk 51 = .ok (.iconst 5, 1) := by decide +kernel
theorem dX11_losesDisk_52 : decode cX11_losesDisk 52 = .ok (.iload_n 3, 1) := by decide +kernel
theorem dX11_losesDisk_53 : decode cX11_losesDisk 53 = .ok (.imul, 1) := by decide +kernel
theorem dX11_losesDisk_54 : decode cX11_losesDisk 54 = .ok (.iadd, 1) := by decide +kernel
theorem dX11_losesDisk_55 : decode cX11_losesDisk 55 = .ok (.iload 4, 2) := by decide +kernel
theorem dX11_losesDisk_57 : decode cX11_losesDisk 57 = .ok (.iadd, 1) := by decide +kernel
theorem dX11_losesDisk_58 : decode cX11_losesDisk 58 = .ok (.iconst 2, 1) := by decide +kernel
theorem dX11_losesDisk_59 : decode cX11_losesDisk 59 = .ok (.iastore, 1) := by decide +kernel
theorem dX11_losesDisk_60 : decode cX11_losesDisk 60 = .ok (.iinc 2 1, 3) := by decide +kernel
theorem dX11_losesDisk_63 : decode cX11_losesDisk 63 = .ok (.iinc 4 1, 3) := by decide +kernel
theorem dX11_losesDisk_66 : decode cX11_losesDisk 66 = .ok (.goto (-49), 3) := by decide +kernel
theorem dX11_losesDisk_69 : decode cX11_losesDisk 69 = .ok (.iinc 3 1, 3) := by decide +kernel
theorem dX11_losesDisk_72 : decode cX11_losesDisk 72 = .ok (.goto (-68), 3) := by decide +kernel
theorem dX11_losesDisk_75 : decode cX11_losesDisk 75 = .ok (.aload_n 0, 1) := by decide +kernel
theorem dX11_losesDisk_76 : decode cX11_losesDisk 76 = .ok (.getfield 125, 3) := by decide +kernel
theorem dX11_losesDisk_79 : decode cX11_losesDisk 79 = .ok (.iconst 0, 1) := by decide +kernel
theorem dX11_losesDisk_80 : decode cX11_losesDisk 80 = .ok (.dup2, 1) := by decide +kernel
theorem dX11_losesDisk_81 : decode cX11_losesDisk 81 = .ok (.iaload, 1) := by decide +kernel
theorem dX11_losesDisk_82 : decode cX11_losesDisk 82 = .ok (.iconst 1, 1) := by decide +kernel
theorem dX11_losesDisk_83 : decode cX11_losesDisk 83 = .ok (.iload_n 1, 1) := by decide +kernel
theorem dX11_losesDisk_84 : decode cX11_losesDisk 84 = .ok (.ishl, 1) := by decide +kernel
theorem dX11_losesDisk_85 : decode cX11_losesDisk 85 = .ok (.iconst (-1), 1) := by decide +kernel
theorem dX11_losesDisk_86 : decode cX11_losesDisk 86 = .ok (.ixor, 1) := by decide +kernel
theorem dX11_losesDisk_87 : decode cX11_losesDisk 87 = .ok (.iand, 1) := by decide +kernel
theorem dX11_losesDisk_88 : decode cX11_losesDisk 88 = .ok (.iastore, 1) := by decide +kernel
theorem dX11_losesDisk_89 : decode cX11_losesDisk 89 = .ok (.iload_n 2, 1) := by decide +kernel
theorem dX11_losesDisk_90 : decode cX11_losesDisk 90 = .ok (.ireturn, 1) := by decide +kernel
theorem dX11_lostUnit_0 : decode cX11_lostUnit 0 = .ok (.iconst 0, 1) := by decide +kernel
theorem dX11_lostUnit_1 : decode cX11_lostUnit 1 = .ok (.istore_n 2, 1) := by decide +kernel
theorem dX11_lostUnit_2 : decode cX11_lostUnit 2 = .ok (.aload_n 0, 1) := by decide +kernel
theorem dX11_lostUnit_3 : decode cX11_lostUnit 3 = .ok (.getfield 125, 3) := by decide +kernel
theorem dX11_lostUnit_6 : decode cX11_lostUnit 6 = .ok (.bipush 14, 2) := by decide +kernel
theorem dX11_lostUnit_8 : decode cX11_lostUnit 8 = .ok (.iconst 5, 1) := by decide +kernel
theorem dX11_lostUnit_9 : decode cX11_lostUnit 9 = .ok (.iload_n 1, 1) := by decide +kernel
theorem dX11_lostUnit_10 : decode cX11_lostUnit 10 = .ok (.imul, 1) := by decide +kernel
theorem dX11_lostUnit_11 : decode cX11_lostUnit 11 = .ok (.iadd, 1) := by decide +kernel
theorem dX11_lostUnit_12 : decode cX11_lostUnit 12 = .ok (.iload_n 2, 1) := by decide +kernel
theorem dX11_lostUnit_13 : decode cX11_lostUnit 13 = .ok (.iadd, 1) := by decide +kernel
theorem dX11_lostUnit_14 : decode cX11_lostUnit 14 = .ok (.iaload, 1) := by decide +kernel
theorem dX11_lostUnit_15 : decode cX11_lostUnit 15 = .ok (.iconst 2, 1) := by decide +kernel
theorem dX11_lostUnit_16 : decode cX11_lostUnit 16 = .ok (.if_icmp .eq 9, 3) := by decide +kernel
theorem dX11_lostUnit_19 : decode cX11_lostUnit 19 = .ok (.iinc 2 1, 3) := by decide +kernel
theorem dX11_lostUnit_22 : decode cX11_lostUnit 22 = .ok (.goto (-20), 3) := by decide +kernel
theorem dX11_lostUnit_25 : decode cX11_lostUnit 25 = .ok (.iload_n 2, 1) := by decide +kernel
theorem dX11_lostUnit_26 : decode cX11_lostUnit 26 = .ok (.ireturn, 1) := by decide +kernel
theorem dX11_rebuilds_0 : decode cX11_rebuilds 0 = .ok (.iconst 0, 1) := by decide +kernel
theorem dX11_rebuilds_1 : decode cX11_rebuilds 1 = .ok (.istore_n 2, 1) := by decide +kernel
theorem dX11_rebuilds_2 : decode cX11_rebuilds 2 = .ok (.iconst 0, 1) := by decide +kernel
theorem dX11_rebuilds_3 : decode cX11_rebuilds 3 = .ok (.istore_n 3, 1) := by decide +kernel
theorem dX11_rebuilds_4 : decode cX11_rebuilds 4 = .ok (.iload_n 3, 1) := by decide +kernel
theorem dX11_rebuilds_5 : decode cX11_rebuilds 5 = .ok (.aload_n 0, 1) := by decide +kernel
theorem dX11_rebuilds_6 : decode cX11_rebuilds 6 = .ok (.getfield 71, 3) := by decide +kernel
theorem dX11_rebuilds_9 : decode cX11_rebuilds 9 = .ok (.iconst 0, 1) := by decide +kernel
theorem dX11_rebuilds_10 : decode cX11_rebuilds 10 = .ok (.iaload, 1) := by decide +kernel
theorem dX11_rebuilds_11 : decode cX11_rebuilds 11 = .ok (.if_icmp .ge 157, 3) := by decide +kernel
theorem dX11_rebuilds_14 : decode cX11_rebuilds 14 = .ok (.iload_n 2, 1) := by decide +kernel
theorem dX11_rebuilds_15 : decode cX11_rebuilds 15 = .ok (.iload_n 1, 1) := by decide +kernel
theorem dX11_rebuilds_16 : decode cX11_rebuilds 16 = .ok (.if_icmp .ge 152, 3) := by decide +kernel
theorem dX11_rebuilds_19 : decode cX11_rebuilds 19 = .ok (.aload_n 0, 1) := by decide +kernel
theorem dX11_rebuilds_20 : decode cX11_rebuilds 20 = .ok (.iload_n 3, 1) := by decide +kernel
theorem dX11_rebuilds_21 : decode cX11_rebuilds 21 = .ok (.invokevirtual 355, 3) := by decide +kernel
theorem dX11_rebuilds_24 : decode cX11_rebuilds 24 = .ok (.iconst 1, 1) := by decide +kernel
theorem dX11_rebuilds_25 : decode cX11_rebuilds 25 = .ok (.if_icmp .eq 6, 3) := by decide +kernel
theorem dX11_rebuilds_28 : decode cX11_rebuilds 28 = .ok (.goto 134, 3) := by decide +kernel
theorem dX11_rebuilds_31 : decode cX11_rebuilds 31 = .ok (.aload_n 0, 1) := by decide +kernel
theorem dX11_rebuilds_32 : decode cX11_rebuilds 32 = .ok (.iload_n 3, 1) := by decide +kernel
theorem dX11_rebuilds_33 : decode cX11_rebuilds 33 = .ok (.invokevirtual 370, 3) := by decide +kernel
theorem dX11_rebuilds_36 : decode cX11_rebuilds 36 = .ok (.istore 4, 2) := by decide +kernel
theorem dX11_rebuilds_38 : decode cX11_rebuilds 38 = .ok (.aload_n 0, 1) := by decide +kernel
theorem dX11_rebuilds_39 : decode cX11_rebuilds 39 = .ok (.aload_n 0, 1) := by decide +kernel
theorem dX11_rebuilds_40 : decode cX11_rebuilds 40 = .ok (.getfield 89, 3) := by decide +kernel
theorem dX11_rebuilds_43 : decode cX11_rebuilds 43 = .ok (.iconst 5, 1) := by decide +kernel
theorem dX11_rebuilds_44 : decode cX11_rebuilds 44 = .ok (.iload_n 3, 1) := by decide +kernel
theorem dX11_rebuilds_45 : decode cX11_rebuilds 45 = .ok (.imul, 1) := by decide +kernel
theorem dX11_rebuilds_46 : decode cX11_rebuilds 46 = .ok (.iload 4, 2) := by decide +kernel
theorem dX11_rebuilds_48 : decode cX11_rebuilds 48 = .ok (.iadd, 1) := by decide +kernel
theorem dX11_rebuilds_49 : decode cX11_rebuilds 49 = .ok (.iaload, 1) := by decide +kernel
theorem dX11_rebuilds_50 : decode cX11_rebuilds 50 = .ok (.invokevirtual 373, 3) := by decide +kernel
theorem dX11_rebuilds_53 : decode cX11_rebuilds 53 = .ok (.istore 5, 2) := by decide +kernel
theorem dX11_rebuilds_55 : decode cX11_rebuilds 55 = .ok (.iload 5, 2) := by decide +kernel
theorem dX11_rebuilds_57 : decode cX11_rebuilds 57 = .ok (.ifCond .ne 36, 3) := by decide +kernel
theorem dX11_rebuilds_60 : decode cX11_rebuilds 60 = .ok (.aload_n 0, 1) := by decide +kernel
theorem dX11_rebuilds_61 : decode cX11_rebuilds 61 = .ok (.getfield 83, 3) := by decide +kernel
theorem dX11_rebuilds_64 : decode cX11_rebuilds 64 = .ok (.iload_n 3, 1) := by decide +kernel
theorem dX11_rebuilds_65 : decode cX11_rebuilds 65 = .ok (.iaload, 1) := by decide +kernel
theorem dX11_rebuilds_66 : decode cX11_rebuilds 66 = .ok (.ifCond .lt 96, 3) := by decide +kernel
theorem dX11_rebuilds_69 : decode cX11_rebuilds 69 = .ok (.aload_n 0, 1) := by decide +kernel
theorem dX11_rebuilds_70 : decode cX11_rebuilds 70 = .ok (.aload_n 0, 1) := by decide +kernel
theorem dX11_rebuilds_71 : decode cX11_rebuilds 71 = .ok (.getfield 83, 3) := by decide +kernel
theorem dX11_rebuilds_74 : decode cX11_rebuilds 74 = .ok (.iload_n 3, 1) := by decide +kernel
theorem dX11_rebuilds_75 : decode cX11_rebuilds 75 = .ok (.iaload, 1) := by decide +kernel
theorem dX11_rebuilds_76 : decode cX11_rebuilds 76 = .ok (.invokevirtual 373, 3) := by decide +kernel
theorem dX11_rebuilds_79 : decode cX11_rebuilds 79 = .ok (.ifCond .eq 83, 3) := by decide +kernel
theorem dX11_rebuilds_82 : decode cX11_rebuilds 82 = .ok (.aload_n 0, 1) := by decide +kernel
theorem dX11_rebuilds_83 : decode cX11_rebuilds 83 = .ok (.iload_n 3, 1) := by decide +kernel
theorem dX11_rebuilds_84 : decode cX11_rebuilds 84 = .ok (.invokevirtual 376, 3) := by decide +kernel
theorem dX11_rebuilds_87 : decode cX11_rebuilds 87 = .ok (.ifCond .lt 6, 3) := by decide +kernel
theorem dX11_rebuilds_90 : decode cX11_rebuilds 90 = .ok (.goto 72, 3) := by decide +kernel
theorem dX11_rebuilds_93 : decode cX11_rebuilds 93 = .ok (.iconst 0, 1) := by decide +kernel
theorem dX11_rebuilds_94 : decode cX11_rebuilds 94 = .ok (.istore 6, 2) := by decide +kernel
theorem dX11_rebuilds_96 : decode cX11_rebuilds 96 = .ok (.iload 6, 2) := by decide +kernel
theorem dX11_rebuilds_98 : decode cX11_rebuilds 98 = .ok (.aload_n 0, 1) := by decide +kernel
theorem dX11_rebuilds_99 : decode cX11_rebuilds 99 = .ok (.getfield 74, 3) := by decide +kernel
theorem dX11_rebuilds_102 : decode cX11_rebuilds 102 = .ok (.iload_n 3, 1) := by decide +kernel
theorem dX11_rebuilds_103 : decode cX11_rebuilds 103 = .ok (.iaload, 1) := by decide +kernel
theorem dX11_rebuilds_104 : decode cX11_rebuilds 104 = .ok (.if_icmp .ge 20, 3) := by decide +kernel
theorem dX11_rebuilds_107 : decode cX11_rebuilds 107 = .ok (.aload_n 0, 1) := by decide +kernel
theorem dX11_rebuilds_108 : decode cX11_rebuilds 108 = .ok (.iconst 5, 1) := by decide +kernel
theorem dX11_rebuilds_109 : decode cX11_rebuilds 109 = .ok (.iload_n 3, 1) := by decide +kernel
theorem dX11_rebuilds_110 : decode cX11_rebuilds 110 = .ok (.imul, 1) := by decide +kernel
theorem dX11_rebuilds_111 : decode cX11_rebuilds 111 = .ok (.iload 6, 2) := by decide +kernel
theorem dX11_rebuilds_113 : decode cX11_rebuilds 113 = .ok (.iadd, 1) := by decide +kernel
theorem dX11_rebuilds_114 : decode cX11_rebuilds 114 = .ok (.iconst 1, 1) := by decide +kernel
theorem dX11_rebuilds_115 : decode cX11_rebuilds 115 = .ok (.invokevirtual 364, 3) := by decide +kernel
theorem dX11_rebuilds_118 : decode cX11_rebuilds 118 = .ok (.iinc 6 1, 3) := by decide +kernel
theorem dX11_rebuilds_121 : decode cX11_rebuilds 121 = .ok (.goto (-25), 3) := by decide +kernel
theorem dX11_rebuilds_124 : decode cX11_rebuilds 124 = .ok (.aload_n 0, 1) := by decide +kernel
theorem dX11_rebuilds_125 : decode cX11_rebuilds 125 = .ok (.getfield 125, 3) := by decide +kernel
theorem dX11_rebuilds_128 : decode cX11_rebuilds 128 = .ok (.bipush 14, 2) := by decide +kernel
theorem dX11_rebuilds_130 : decode cX11_rebuilds 130 = .ok (.iconst 5, 1) := by decide +kernel
theorem dX11_rebuilds_131 : decode cX11_rebuilds 131 = .ok (.iload_n 3, 1) := by decide +kernel
theorem dX11_rebuilds_132 : decode cX11_rebuilds 132 = .ok (.imul, 1) := by decide +kernel
theorem dX11_rebuilds_133 : decode cX11_rebuilds 133 = .ok (.iadd, 1) := by decide +kernel
theorem dX11_rebuilds_134 : decode cX11_rebuilds 134 = .ok (.iload 4, 2) := by decide +kernel
theorem dX11_rebuilds_136 : decode cX11_rebuilds 136 = .ok (.iadd, 1) := by decide +kernel
theorem dX11_rebuilds_137 : decode cX11_rebuilds 137 = .ok (.iload 5, 2) := by decide +kernel
theorem dX11_rebuilds_139 : decode cX11_rebuilds 139 = .ok (.ifCond .eq 7, 3) := by decide +kernel
theorem dX11_rebuilds_142 : decode cX11_rebuilds 142 = .ok (.iconst 0, 1) := by decide +kernel
theorem dX11_rebuilds_143 : decode cX11_rebuilds 143 = .ok (.goto 4, 3) := by decide +kernel
theorem dX11_rebuilds_146 : decode cX11_rebuilds 146 = .ok (.iconst 1, 1) := by decide +kernel
theorem dX11_rebuilds_147 : decode cX11_rebuilds 147 = .ok (.iastore, 1) := by decide +kernel
theorem dX11_rebuilds_148 : decode cX11_rebuilds 148 = .ok (.aload_n 0, 1) := by decide +kernel
theorem dX11_rebuilds_149 : decode cX11_rebuilds 149 = .ok (.iconst 5, 1) := by decide +kernel
theorem dX11_rebuilds_150 : decode cX11_rebuilds 150 = .ok (.iload_n 3, 1) := by decide +kernel
theorem dX11_rebuilds_151 : decode cX11_rebuilds 151 = .ok (.imul, 1) := by decide +kernel
theorem dX11_rebuilds_152 : decode cX11_rebuilds 152 = .ok (.iload 4, 2) := by decide +kernel
theorem dX11_rebuilds_154 : decode cX11_rebuilds 154 = .ok (.iadd, 1) := by decide +kernel
theorem dX11_rebuilds_155 : decode cX11_rebuilds 155 = .ok (.iconst 1, 1) := by decide +kernel
theorem dX11_rebuilds_156 : decode cX11_rebuilds 156 = .ok (.invokevirtual 364, 3) := by decide +kernel
theorem dX11_rebuilds_159 : decode cX11_rebuilds 159 = .ok (.iinc 2 1, 3) := by decide +kernel
theorem dX11_rebuilds_162 : decode cX11_rebuilds 162 = .ok (.iinc 3 1, 3) := by decide +kernel
theorem dX11_rebuilds_165 : decode cX11_rebuilds 165 = .ok (.goto (-161), 3) := by decide +kernel
theorem dX11_rebuilds_168 : decode cX11_rebuilds 168 = .ok (.iload_n 2, 1) := by decide +kernel
theorem dX11_rebuilds_169 : decode cX11_rebuilds 169 = .ok (.ireturn, 1) := by decide +kernel
theorem dX11_goesHome_0 : decode cX11_goesHome 0 = .ok (.iconst 0, 1) := by decide +kernel
theorem dX11_goesHome_1 : decode cX11_goesHome 1 = .ok (.istore_n 2, 1) := by decide +kernel
theorem dX11_goesHome_2 : decode cX11_goesHome 2 = .ok (.iconst 0, 1) := by decide +kernel
theorem dX11_goesHome_3 : decode cX11_goesHome 3 = .ok (.istore_n 3, 1) := by decide +kernel
theorem dX11_goesHome_4 : decode cX11_goesHome 4 = .ok (.iload_n 3, 1) := by decide +kernel
theorem dX11_goesHome_5 : decode cX11_goesHome 5 = .ok (.aload_n 0, 1) := by decide +kernel
theorem dX11_goesHome_6 : decode cX11_goesHome 6 = .ok (.getfield 71, 3) := by decide +kernel
theorem dX11_goesHome_9 : decode cX11_goesHome 9 = .ok (.iconst 0, 1) := by decide +kernel
theorem dX11_goesHome_10 : decode cX11_goesHome 10 = .ok (.iaload, 1) := by decide +kernel
theorem dX11_goesHome_11 : decode cX11_goesHome 11 = .ok (.if_icmp .ge 87, 3) := by decide +kernel
theorem dX11_goesHome_14 : decode cX11_goesHome 14 = .ok (.iload_n 2, 1) := by decide +kernel
theorem dX11_goesHome_15 : decode cX11_goesHome 15 = .ok (.iload_n 1, 1) := by decide +kernel
theorem dX11_goesHome_16 : decode cX11_goesHome 16 = .ok (.if_icmp .ge 82, 3) := by decide +kernel
theorem dX11_goesHome_19 : decode cX11_goesHome 19 = .ok (.aload_n 0, 1) := by decide +kernel
theorem dX11_goesHome_20 : decode cX11_goesHome 20 = .ok (.iload_n 3, 1) := by decide +kernel
theorem dX11_goesHome_21 : decode cX11_goesHome 21 = .ok (.invokevirtual 376, 3) := by decide +kernel
theorem dX11_goesHome_24 : decode cX11_goesHome 24 = .ok (.istore 4, 2) := by decide +kernel
theorem dX11_goesHome_26 : decode cX11_goesHome 26 = .ok (.iload 4, 2) := by decide +kernel
theorem dX11_goesHome_28 : decode cX11_goesHome 28 = .ok (.ifCond .lt 64, 3) := by decide +kernel
theorem dX11_goesHome_31 : decode cX11_goesHome 31 = .ok (.aload_n 0, 1) := by decide +kernel
theorem dX11_goesHome_32 : decode cX11_goesHome 32 = .ok (.aload_n 0, 1) := by decide +kernel
theorem dX11_goesHome_33 : decode cX11_goesHome 33 = .ok (.getfield 89, 3) := by decide +kernel
theorem dX11_goesHome_36 : decode cX11_goesHome 36 = .ok (.iconst 5, 1) := by decide +kernel
theorem dX11_goesHome_37 : decode cX11_goesHome 37 = .ok (.iload_n 3, 1) := by decide +kernel
theorem dX11_goesHome_38 : decode cX11_goesHome 38 = .ok (.imul, 1) := by decide +kernel
theorem dX11_goesHome_39 : decode cX11_goesHome 39 = .ok (.iload 4, 2) := by decide +kernel
theorem dX11_goesHome_41 : decode cX11_goesHome 41 = .ok (.iadd, 1) := by decide +kernel
theorem dX11_goesHome_42 : decode cX11_goesHome 42 = .ok (.iaload, 1) := by decide +kernel
theorem dX11_goesHome_43 : decode cX11_goesHome 43 = .ok (.invokevirtual 373, 3) := by decide +kernel
theorem dX11_goesHome_46 : decode cX11_goesHome 46 = .ok (.ifCond .ne 6, 3) := by decide +kernel
theorem dX11_goesHome_49 : decode cX11_goesHome 49 = .ok (.goto 43, 3) := by decide +kernel
theorem dX11_goesHome_52 : decode cX11_goesHome 52 = .ok (.aload_n 0, 1) := by decide +kernel
theorem dX11_goesHome_53 : decode cX11_goesHome 53 = .ok (.iconst 5, 1) := by decide +kernel
theorem dX11_goesHome_54 : decode cX11_goesHome 54 = .ok (.iload_n 3, 1) := by decide +kernel
theorem dX11_goesHome_55 : decode cX11_goesHome 55 = .ok (.imul, 1) := by decide +kernel
theorem dX11_goesHome_56 : decode cX11_goesHome 56 = .ok (.iload 4, 2) := by decide +kernel
theorem dX11_goesHome_58 : decode cX11_goesHome 58 = .ok (.iadd, 1) := by decide +kernel
theorem dX11_goesHome_59 : decode cX11_goesHome 59 = .ok (.iconst 1, 1) := by decide +kernel
theorem dX11_goesHome_60 : decode cX11_goesHome 60 = .ok (.invokevirtual 364, 3) := by decide +kernel
theorem dX11_goesHome_63 : decode cX11_goesHome 63 = .ok (.aload_n 0, 1) := by decide +kernel
theorem dX11_goesHome_64 : decode cX11_goesHome 64 = .ok (.getfield 125, 3) := by decide +kernel
theorem dX11_goesHome_67 : decode cX11_goesHome 67 = .ok (.bipush 14, 2) := by decide +kernel
theorem dX11_goesHome_69 : decode cX11_goesHome 69 = .ok (.iconst 5, 1) := by decide +kernel
theorem dX11_goesHome_70 : decode cX11_goesHome 70 = .ok (.iload_n 3, 1) := by decide +kernel
theorem dX11_goesHome_71 : decode cX11_goesHome 71 = .ok (.imul, 1) := by decide +kernel
theorem dX11_goesHome_72 : decode cX11_goesHome 72 = .ok (.iadd, 1) := by decide +kernel
theorem dX11_goesHome_73 : decode cX11_goesHome 73 = .ok (.iload 4, 2) := by decide +kernel
theorem dX11_goesHome_75 : decode cX11_goesHome 75 = .ok (.iadd, 1) := by decide +kernel
theorem dX11_goesHome_76 : decode cX11_goesHome 76 = .ok (.iconst 0, 1) := by decide +kernel
theorem dX11_goesHome_77 : decode cX11_goesHome 77 = .ok (.iastore, 1) := by decide +kernel
theorem dX11_goesHome_78 : decode cX11_goesHome 78 = .ok (.aload_n 0, 1) := by decide +kernel
theorem dX11_goesHome_79 : decode cX11_goesHome 79 = .ok (.iconst 5, 1) := by decide +kernel
theorem dX11_goesHome_80 : decode cX11_goesHome 80 = .ok (.iload_n 3, 1) := by decide +kernel
theorem dX11_goesHome_81 : decode cX11_goesHome 81 = .ok (.imul, 1) := by decide +kernel
theorem dX11_goesHome_82 : decode cX11_goesHome 82 = .ok (.iload 4, 2) := by decide +kernel
theorem dX11_goesHome_84 : decode cX11_goesHome 84 = .ok (.iadd, 1) := by decide +kernel
theorem dX11_goesHome_85 : decode cX11_goesHome 85 = .ok (.iconst 1, 1) := by decide +kernel
theorem dX11_goesHome_86 : decode cX11_goesHome 86 = .ok (.invokevirtual 364, 3) := by decide +kernel
theorem dX11_goesHome_89 : decode cX11_goesHome 89 = .ok (.iinc 2 1, 3) := by decide +kernel
theorem dX11_goesHome_92 : decode cX11_goesHome 92 = .ok (.iinc 3 1, 3) := by decide +kernel
theorem dX11_goesHome_95 : decode cX11_goesHome 95 = .ok (.goto (-91), 3) := by decide +kernel
theorem dX11_goesHome_98 : decode cX11_goesHome 98 = .ok (.iload_n 2, 1) := by decide +kernel
theorem dX11_goesHome_99 : decode cX11_goesHome 99 = .ok (.ireturn, 1) := by decide +kernel
theorem dX11_stripe_0 : decode cX11_stripe 0 = .ok (.aload_n 0, 1) := by decide +kernel
theorem dX11_stripe_1 : decode cX11_stripe 1 = .ok (.iconst 0, 1) := by decide +kernel
theorem dX11_stripe_2 : decode cX11_stripe 2 = .ok (.putfield 152, 3) := by decide +kernel
theorem dX11_stripe_5 : decode cX11_stripe 5 = .ok (.iload_n 1, 1) := by decide +kernel
theorem dX11_stripe_6 : decode cX11_stripe 6 = .ok (.iconst 0, 1) := by decide +kernel
theorem dX11_stripe_7 : decode cX11_stripe 7 = .ok (.aload_n 0, 1) := by decide +kernel
theorem dX11_stripe_8 : decode cX11_stripe 8 = .ok (.getfield 71, 3) := by decide +kernel
theorem dX11_stripe_11 : decode cX11_stripe 11 = .ok (.iconst 0, 1) := by decide +kernel
theorem dX11_stripe_12 : decode cX11_stripe 12 = .ok (.iaload, 1) := by decide +kernel
theorem dX11_stripe_13 : decode cX11_stripe 13 = .ok (.iconst 1, 1) := by decide +kernel
theorem dX11_stripe_14 : decode cX11_stripe 14 = .ok (.isub, 1) := by decide +kernel
theorem dX11_stripe_15 : decode cX11_stripe 15 = .ok (.invokestatic 239, 3) := by decide +kernel
theorem dX11_stripe_18 : decode cX11_stripe 18 = .ok (.ifCond .eq 12, 3) := by decide +kernel
theorem dX11_stripe_21 : decode cX11_stripe 21 = .ok (.iload_n 2, 1) := by decide +kernel
theorem dX11_stripe_22 : decode cX11_stripe 22 = .ok (.iconst 0, 1) := by decide +kernel
theorem dX11_stripe_23 : decode cX11_stripe 23 = .ok (.iconst 5, 1) := by decide +kernel
theorem dX11_stripe_24 : decode cX11_stripe 24 = .ok (.invokestatic 239, 3) := by decide +kernel
theorem dX11_stripe_27 : decode cX11_stripe 27 = .ok (.ifCond .ne 6, 3) := by decide +kernel
theorem dX11_stripe_30 : decode cX11_stripe 30 = .ok (.bipush (-2), 2) := by decide +kernel
theorem dX11_stripe_32 : decode cX11_stripe 32 = .ok (.ireturn, 1) := by decide +kernel
theorem dX11_stripe_33 : decode cX11_stripe 33 = .ok (.iload_n 2, 1) := by decide +kernel
theorem dX11_stripe_34 : decode cX11_stripe 34 = .ok (.iconst 4, 1) := by decide +kernel
theorem dX11_stripe_35 : decode cX11_stripe 35 = .ok (.if_icmp .ge 51, 3) := by decide +kernel
theorem dX11_stripe_38 : decode cX11_stripe 38 = .ok (.iload_n 2, 1) := by decide +kernel
theorem dX11_stripe_39 : decode cX11_stripe 39 = .ok (.ifCond .ne 12, 3) := by decide +kernel
theorem dX11_stripe_42 : decode cX11_stripe 42 = .ok (.aload_n 0, 1) := by decide +kernel
theorem dX11_stripe_43 : decode cX11_stripe 43 = .ok (.getfield 74, 3) := by decide +kernel
theorem dX11_stripe_46 : decode cX11_stripe 46 = .ok (.iload_n 1, 1) := by decide +kernel
theorem dX11_stripe_47 : decode cX11_stripe 47 = .ok (.iaload, 1) := by decide +kernel
theorem dX11_stripe_48 : decode cX11_stripe 48 = .ok (.goto 37, 3) := by decide +kernel
theorem dX11_stripe_51 : decode cX11_stripe 51 = .ok (.iload_n 2, 1) := by decide +kernel
theorem dX11_stripe_52 : decode cX11_stripe 52 = .ok (.iconst 1, 1) := by decide +kernel
theorem dX11_stripe_53 : decode cX11_stripe 53 = .ok (.if_icmp .ne 12, 3) := by decide +kernel
theorem dX11_stripe_56 : decode cX11_stripe 56 = .ok (.aload_n 0, 1) := by decide +kernel
theorem dX11_stripe_57 : decode cX11_stripe 57 = .ok (.getfield 80, 3) := by decide +kernel
theorem dX11_stripe_60 : decode cX11_stripe 60 = .ok (.iload_n 1, 1) := by decide +kernel
theorem dX11_stripe_61 : decode cX11_stripe 61 = .ok (.iaload, 1) := by decide +kernel
theorem dX11_stripe_62 : decode cX11_stripe 62 = .ok (.goto 23, 3) := by decide +kernel
theorem dX11_stripe_65 : decode cX11_stripe 65 = .ok (.iload_n 2, 1) := by decide +kernel
theorem dX11_stripe_66 : decode cX11_stripe 66 = .ok (.iconst 2, 1) := by decide +kernel
theorem dX11_stripe_67 : decode cX11_stripe 67 = .ok (.if_icmp .ne 12, 3) := by decide +kernel
theorem dX11_stripe_70 : decode cX11_stripe 70 = .ok (.aload_n 0, 1) := by decide +kernel
theorem dX11_stripe_71 : decode cX11_stripe 71 = .ok (.getfield 83, 3) := by decide +kernel
theorem dX11_stripe_74 : decode cX11_stripe 74 = .ok (.iload_n 1, 1) := by decide +kernel
theorem dX11_stripe_75 : decode cX11_stripe 75 = .ok (.iaload, 1) := by decide +kernel
theorem dX11_stripe_76 : decode cX11_stripe 76 = .ok (.goto 9, 3) := by decide +kernel
theorem dX11_stripe_79 : decode cX11_stripe 79 = .ok (.aload_n 0, 1) := by decide +kernel
theorem dX11_stripe_80 : decode cX11_stripe 80 = .ok (.getfield 77, 3) := by decide +kernel
theorem dX11_stripe_83 : decode cX11_stripe 83 = .ok (.iload_n 1, 1) := by decide +kernel
theorem dX11_stripe_84 : decode cX11_stripe 84 = .ok (.iaload, 1) := by decide +kernel
theorem dX11_stripe_85 : decode cX11_stripe 85 = .ok (.ireturn, 1) := by decide +kernel
theorem dX11_stripe_86 : decode cX11_stripe 86 = .ok (.iload_n 2, 1) := by decide +kernel
theorem dX11_stripe_87 : decode cX11_stripe 87 = .ok (.iconst 5, 1) := by decide +kernel
theorem dX11_stripe_88 : decode cX11_stripe 88 = .ok (.if_icmp .ne 9, 3) := by decide +kernel
theorem dX11_stripe_91 : decode cX11_stripe 91 = .ok (.aload_n 0, 1) := by decide +kernel
theorem dX11_stripe_92 : decode cX11_stripe 92 = .ok (.iload_n 1, 1) := by decide +kernel
theorem dX11_stripe_93 : decode cX11_stripe 93 = .ok (.invokevirtual 376, 3) := by decide +kernel
theorem dX11_stripe_96 : decode cX11_stripe 96 = .ok (.ireturn, 1) := by decide +kernel
theorem dX11_stripe_97 : decode cX11_stripe 97 = .ok (.iconst 0, 1) := by decide +kernel
theorem dX11_stripe_98 : decode cX11_stripe 98 = .ok (.istore_n 3, 1) := by decide +kernel
theorem dX11_stripe_99 : decode cX11_stripe 99 = .ok (.iconst 0, 1) := by decide +kernel
theorem dX11_stripe_100 : decode cX11_stripe 100 = .ok (.istore 4, 2) := by decide +kernel
theorem dX11_stripe_102 : decode cX11_stripe 102 = .ok (.iload 4, 2) := by decide +kernel
theorem dX11_stripe_104 : decode cX11_stripe 104 = .ok (.aload_n 0, 1) := by decide +kernel
theorem dX11_stripe_105 : decode cX11_stripe 105 = .ok (.getfield 74, 3) := by decide +kernel
theorem dX11_stripe_108 : decode cX11_stripe 108 = .ok (.iload_n 1, 1) := by decide +kernel
theorem dX11_stripe_109 : decode cX11_stripe 109 = .ok (.iaload, 1) := by decide +kernel
theorem dX11_stripe_110 : decode cX11_stripe 110 = .ok (.if_icmp .ge 38, 3) := by decide +kernel
theorem dX11_stripe_113 : decode cX11_stripe 113 = .ok (.iload_n 3, 1) := by decide +kernel
theorem dX11_stripe_114 : decode cX11_stripe 114 = .ok (.aload_n 0, 1) := by decide +kernel
theorem dX11_stripe_115 : decode cX11_stripe 115 = .ok (.getfield 125, 3) := by decide +kernel
theorem dX11_stripe_118 : decode cX11_stripe 118 = .ok (.bipush 14, 2) := by decide +kernel
theorem dX11_stripe_120 : decode cX11_stripe 120 = .ok (.iconst 5, 1) := by decide +kernel
theorem dX11_stripe_121 : decode cX11_stripe 121 = .ok (.iload_n 1, 1) := by decide +kernel
theorem dX11_stripe_122 : decode cX11_stripe 122 = .ok (.imul, 1) := by decide +kernel
theorem dX11_stripe_123 : decode cX11_stripe 123 = .ok (.iadd, 1) := by decide +kernel
theorem dX11_stripe_124 : decode cX11_stripe 124 = .ok (.iload 4, 2) := by decide +kernel
theorem dX11_stripe_126 : decode cX11_stripe 126 = .ok (.iadd, 1) := by decide +kernel
theorem dX11_stripe_127 : decode cX11_stripe 127 = .ok (.iaload, 1) := by decide +kernel
theorem dX11_stripe_128 : decode cX11_stripe 128 = .ok (.iconst 2, 1) := by decide +kernel
theorem dX11_stripe_129 : decode cX11_stripe 129 = .ok (.if_icmp .ne 10, 3) := by decide +kernel
theorem dX11_stripe_132 : decode cX11_stripe 132 = .ok (.iconst 1, 1) := by decide +kernel
theorem dX11_stripe_133 : decode cX11_stripe 133 = .ok (.iload 4, 2) := by decide +kernel
theorem dX11_stripe_135 : decode cX11_stripe 135 = .ok (.ishl, 1) := by decide +kernel
theorem dX11_stripe_136 : decode cX11_stripe 136 = .ok (.goto 4, 3) := by decide +kernel
theorem dX11_stripe_139 : decode cX11_stripe 139 = .ok (.iconst 0, 1) := by decide +kernel
theorem dX11_stripe_140 : decode cX11_stripe 140 = .ok (.ior, 1) := by decide +kernel
theorem dX11_stripe_141 : decode cX11_stripe 141 = .ok (.istore_n 3, 1) := by decide +kernel
theorem dX11_stripe_142 : decode cX11_stripe 142 = .ok (.iinc 4 1, 3) := by decide +kernel
theorem dX11_stripe_145 : decode cX11_stripe 145 = .ok (.goto (-43), 3) := by decide +kernel
theorem dX11_stripe_148 : decode cX11_stripe 148 = .ok (.iload_n 3, 1) := by decide +kernel
theorem dX11_stripe_149 : decode cX11_stripe 149 = .ok (.ireturn, 1) := by decide +kernel
theorem dX11_unit_0 : decode cX11_unit 0 = .ok (.aload_n 0, 1) := by decide +kernel
theorem dX11_unit_1 : decode cX11_unit 1 = .ok (.iconst 0, 1) := by decide +kernel
theorem dX11_unit_2 : decode cX11_unit 2 = .ok (.putfield 152, 3) := by decide +kernel
theorem dX11_unit_5 : decode cX11_unit 5 = .ok (.iload_n 1, 1) := by decide +kernel
theorem dX11_unit_6 : decode cX11_unit 6 = .ok (.iconst 0, 1) := by decide +kernel
theorem dX11_unit_7 : decode cX11_unit 7 = .ok (.aload_n 0, 1) := by decide +kernel
theorem dX11_unit_8 : decode cX11_unit 8 = .ok (.getfield 71, 3) := by decide +kernel
theorem dX11_unit_11 : decode cX11_unit 11 = .ok (.iconst 0, 1) := by decide +kernel
theorem dX11_unit_12 : decode cX11_unit 12 = .ok (.iaload, 1) := by decide +kernel
theorem dX11_unit_13 : decode cX11_unit 13 = .ok (.iconst 1, 1) := by decide +kernel
theorem dX11_unit_14 : decode cX11_unit 14 = .ok (.isub, 1) := by decide +kernel
theorem dX11_unit_15 : decode cX11_unit 15 = .ok (.invokestatic 239, 3) := by decide +kernel
theorem dX11_unit_18 : decode cX11_unit 18 = .ok (.ifCond .eq 28, 3) := by decide +kernel
theorem dX11_unit_21 : decode cX11_unit 21 = .ok (.iload_n 2, 1) := by decide +kernel
theorem dX11_unit_22 : decode cX11_unit 22 = .ok (.iconst 0, 1) := by decide +kernel
theorem dX11_unit_23 : decode cX11_unit 23 = .ok (.aload_n 0, 1) := by decide +kernel
theorem dX11_unit_24 : decode cX11_unit 24 = .ok (.getfield 74, 3) := by decide +kernel
theorem dX11_unit_27 : decode cX11_unit 27 = .ok (.iload_n 1, 1) := by decide +kernel
theorem dX11_unit_28 : decode cX11_unit 28 = .ok (.iaload, 1) := by decide +kernel
theorem dX11_unit_29 : decode cX11_unit 29 = .ok (.iconst 1, 1) := by decide +kernel
theorem dX11_unit_30 : decode cX11_unit 30 = .ok (.isub, 1) := by decide +kernel
theorem dX11_unit_31 : decode cX11_unit 31 = .ok (.invokestatic 239, 3) := by decide +kernel
theorem dX11_unit_34 : decode cX11_unit 34 = .ok (.ifCond .eq 12, 3) := by decide +kernel
theorem dX11_unit_37 : decode cX11_unit 37 = .ok (.iload_n 3, 1) := by decide +kernel
theorem dX11_unit_38 : decode cX11_unit 38 = .ok (.iconst 0, 1) := by decide +kernel
theorem dX11_unit_39 : decode cX11_unit 39 = .ok (.iconst 4, 1) := by decide +kernel
theorem dX11_unit_40 : decode cX11_unit 40 = .ok (.invokestatic 239, 3) := by decide +kernel
theorem dX11_unit_43 : decode cX11_unit 43 = .ok (.ifCond .ne 6, 3) := by decide +kernel
theorem dX11_unit_46 : decode cX11_unit 46 = .ok (.bipush (-2), 2) := by decide +kernel
theorem dX11_unit_48 : decode cX11_unit 48 = .ok (.ireturn, 1) := by decide +kernel
theorem dX11_unit_49 : decode cX11_unit 49 = .ok (.iconst 5, 1) := by decide +kernel
theorem dX11_unit_50 : decode cX11_unit 50 = .ok (.iload_n 1, 1) := by decide +kernel
theorem dX11_unit_51 : decode cX11_unit 51 = .ok (.imul, 1) := by decide +kernel
theorem dX11_unit_52 : decode cX11_unit 52 = .ok (.iload_n 2, 1) := by decide +kernel
theorem dX11_unit_53 : decode cX11_unit 53 = .ok (.iadd, 1) := by decide +kernel
theorem dX11_unit_54 : decode cX11_unit 54 = .ok (.istore 4, 2) := by decide +kernel
theorem dX11_unit_56 : decode cX11_unit 56 = .ok (.iload_n 3, 1) := by decide +kernel
theorem dX11_unit_57 : decode cX11_unit 57 = .ok (.iconst 3, 1) := by decide +kernel
theorem dX11_unit_58 : decode cX11_unit 58 = .ok (.if_icmp .ge 43, 3) := by decide +kernel
theorem dX11_unit_61 : decode cX11_unit 61 = .ok (.iload_n 3, 1) := by decide +kernel
theorem dX11_unit_62 : decode cX11_unit 62 = .ok (.ifCond .ne 13, 3) := by decide +kernel
theorem dX11_unit_65 : decode cX11_unit 65 = .ok (.aload_n 0, 1) := by decide +kernel
theorem dX11_unit_66 : decode cX11_unit 66 = .ok (.getfield 89, 3) := by decide +kernel
theorem dX11_unit_69 : decode cX11_unit 69 = .ok (.iload 4, 2) := by decide +kernel
theorem dX11_unit_71 : decode cX11_unit 71 = .ok (.iaload, 1) := by decide +kernel
theorem dX11_unit_72 : decode cX11_unit 72 = .ok (.goto 28, 3) := by decide +kernel
theorem dX11_unit_75 : decode cX11_unit 75 = .ok (.iload_n 3, 1) := by decide +kernel
theorem dX11_unit_76 : decode cX11_unit 76 = .ok (.iconst 1, 1) := by decide +kernel
theorem dX11_unit_77 : decode cX11_unit 77 = .ok (.if_icmp .ne 13, 3) := by decide +kernel
theorem dX11_unit_80 : decode cX11_unit 80 = .ok (.aload_n 0, 1) := by decide +kernel
theorem dX11_unit_81 : decode cX11_unit 81 = .ok (.getfield 92, 3) := by decide +kernel
theorem dX11_unit_84 : decode cX11_unit 84 = .ok (.iload 4, 2) := by decide +kernel
theorem dX11_unit_86 : decode cX11_unit 86 = .ok (.iaload, 1) := by decide +kernel
theorem dX11_unit_87 : decode cX11_unit 87 = .ok (.goto 13, 3) := by decide +kernel
theorem dX11_unit_90 : decode cX11_unit 90 = .ok (.aload_n 0, 1) := by decide +kernel
theorem dX11_unit_91 : decode cX11_unit 91 = .ok (.getfield 125, 3) := by decide +kernel
theorem dX11_unit_94 : decode cX11_unit 94 = .ok (.bipush 14, 2) := by decide +kernel
theorem dX11_unit_96 : decode cX11_unit 96 = .ok (.iload 4, 2) := by decide +kernel
theorem dX11_unit_98 : decode cX11_unit 98 = .ok (.iadd, 1) := by decide +kernel
theorem dX11_unit_99 : decode cX11_unit 99 = .ok (.iaload, 1) := by decide +kernel
theorem dX11_unit_100 : decode cX11_unit 100 = .ok (.ireturn, 1) := by decide +kernel
theorem dX11_unit_101 : decode cX11_unit 101 = .ok (.iload_n 3, 1) := by decide +kernel
theorem dX11_unit_102 : decode cX11_unit 102 = .ok (.iconst 4, 1) := by decide +kernel
theorem dX11_unit_103 : decode cX11_unit 103 = .ok (.if_icmp .ne 11, 3) := by decide +kernel
theorem dX11_unit_106 : decode cX11_unit 106 = .ok (.aload_n 0, 1) := by decide +kernel
theorem dX11_unit_107 : decode cX11_unit 107 = .ok (.getfield 101, 3) := by decide +kernel
theorem dX11_unit_110 : decode cX11_unit 110 = .ok (.iload 4, 2) := by decide +kernel
theorem dX11_unit_112 : decode cX11_unit 112 = .ok (.iaload, 1) := by decide +kernel
theorem dX11_unit_113 : decode cX11_unit 113 = .ok (.ireturn, 1) := by decide +kernel
theorem dX11_unit_114 : decode cX11_unit 114 = .ok (.aload_n 0, 1) := by decide +kernel
theorem dX11_unit_115 : decode cX11_unit 115 = .ok (.getfield 125, 3) := by decide +kernel
theorem dX11_unit_118 : decode cX11_unit 118 = .ok (.bipush 14, 2) := by decide +kernel
theorem dX11_unit_120 : decode cX11_unit 120 = .ok (.iload 4, 2) := by decide +kernel
theorem dX11_unit_122 : decode cX11_unit 122 = .ok (.iadd, 1) := by decide +kernel
theorem dX11_unit_123 : decode cX11_unit 123 = .ok (.iaload, 1) := by decide +kernel
theorem dX11_unit_124 : decode cX11_unit 124 = .ok (.iconst 2, 1) := by decide +kernel
theorem dX11_unit_125 : decode cX11_unit 125 = .ok (.if_icmp .ne 15, 3) := by decide +kernel
theorem dX11_unit_128 : decode cX11_unit 128 = .ok (.aload_n 0, 1) := by decide +kernel
theorem dX11_unit_129 : decode cX11_unit 129 = .ok (.iload_n 1, 1) := by decide +kernel
theorem dX11_unit_130 : decode cX11_unit 130 = .ok (.invokevirtual 361, 3) := by decide +kernel
theorem dX11_unit_133 : decode cX11_unit 133 = .ok (.ifCond .eq 7, 3) := by decide +kernel
theorem dX11_unit_136 : decode cX11_unit 136 = .ok (.iconst (-1), 1) := by decide +kernel
theorem dX11_unit_137 : decode cX11_unit 137 = .ok (.goto 9, 3) := by decide +kernel
theorem dX11_unit_140 : decode cX11_unit 140 = .ok (.aload_n 0, 1) := by decide +kernel
theorem dX11_unit_141 : decode cX11_unit 141 = .ok (.iload_n 1, 1) := by decide +kernel
theorem dX11_unit_142 : decode cX11_unit 142 = .ok (.iload_n 2, 1) := by decide +kernel
theorem dX11_unit_143 : decode cX11_unit 143 = .ok (.invokevirtual 379, 3) := by decide +kernel
theorem dX11_unit_146 : decode cX11_unit 146 = .ok (.ireturn, 1) := by decide +kernel
theorem dX11_datum_0 : decode cX11_datum 0 = .ok (.aload_n 0, 1) := by decide +kernel
theorem dX11_datum_1 : decode cX11_datum 1 = .ok (.iconst 0, 1) := by decide +kernel
theorem dX11_datum_2 : decode cX11_datum 2 = .ok (.putfield 152, 3) := by decide +kernel
theorem dX11_datum_5 : decode cX11_datum 5 = .ok (.aload_n 0, 1) := by decide +kernel
theorem dX11_datum_6 : decode cX11_datum 6 = .ok (.iload_n 1, 1) := by decide +kernel
theorem dX11_datum_7 : decode cX11_datum 7 = .ok (.invokevirtual 382, 3) := by decide +kernel
theorem dX11_datum_10 : decode cX11_datum 10 = .ok (.ifCond .eq 12, 3) := by decide +kernel
theorem dX11_datum_13 : decode cX11_datum 13 = .ok (.iload_n 2, 1) := by decide +kernel
theorem dX11_datum_14 : decode cX11_datum 14 = .ok (.iconst 0, 1) := by decide +kernel
theorem dX11_datum_15 : decode cX11_datum 15 = .ok (.iconst 3, 1) := by decide +kernel
theorem dX11_datum_16 : decode cX11_datum 16 = .ok (.invokestatic 239, 3) := by decide +kernel
theorem dX11_datum_19 : decode cX11_datum 19 = .ok (.ifCond .ne 6, 3) := by decide +kernel
theorem dX11_datum_22 : decode cX11_datum 22 = .ok (.bipush (-2), 2) := by decide +kernel
theorem dX11_datum_24 : decode cX11_datum 24 = .ok (.ireturn, 1) := by decide +kernel
theorem dX11_datum_25 : decode cX11_datum 25 = .ok (.aload_n 0, 1) := by decide +kernel
theorem dX11_datum_26 : decode cX11_datum 26 = .ok (.getfield 95, 3) := by decide +kernel
theorem dX11_datum_29 : decode cX11_datum 29 = .ok (.iload_n 1, 1) := by decide +kernel
theorem dX11_datum_30 : decode cX11_datum 30 = .ok (.iaload, 1) := by decide +kernel
theorem dX11_datum_31 : decode cX11_datum 31 = .ok (.istore_n 3, 1) := by decide +kernel
theorem dX11_datum_32 : decode cX11_datum 32 = .ok (.iload_n 2, 1) := by decide +kernel
theorem dX11_datum_33 : decode cX11_datum 33 = .ok (.iconst 2, 1) := by decide +kernel
theorem dX11_datum_34 : decode cX11_datum 34 = .ok (.if_icmp .ge 17, 3) := by decide +kernel
theorem dX11_datum_37 : decode cX11_datum 37 = .ok (.iload_n 2, 1) := by decide +kernel
theorem dX11_datum_38 : decode cX11_datum 38 = .ok (.ifCond .ne 9, 3) := by decide +kernel
theorem dX11_datum_41 : decode cX11_datum 41 = .ok (.iload_n 3, 1) := by decide +kernel
theorem dX11_datum_42 : decode cX11_datum 42 = .ok (.iconst 5, 1) := by decide +kernel
theorem dX11_datum_43 : decode cX11_datum 43 = .ok (.idiv, 1) := by decide +kernel
theorem dX11_datum_44 : decode cX11_datum 44 = .ok (.goto 6, 3) := by decide +kernel
theorem dX11_datum_47 : decode cX11_datum 47 = .ok (.iload_n 3, 1) := by decide +kernel
theorem dX11_datum_48 : decode cX11_datum 48 = .ok (.iconst 5, 1) := by decide +kernel
theorem dX11_datum_49 : decode cX11_datum 49 = .ok (.irem, 1) := by decide +kernel
theorem dX11_datum_50 : decode cX11_datum 50 = .ok (.ireturn, 1) := by decide +kernel
theorem dX11_datum_51 : decode cX11_datum 51 = .ok (.iload_n 2, 1) := by decide +kernel
theorem dX11_datum_52 : decode cX11_datum 52 = .ok (.iconst 2, 1) := by decide +kernel
theorem dX11_datum_53 : decode cX11_datum 53 = .ok (.if_icmp .eq 16, 3) := by decide +kernel
theorem dX11_datum_56 : decode cX11_datum 56 = .ok (.aload_n 0, 1) := by decide +kernel
theorem dX11_datum_57 : decode cX11_datum 57 = .ok (.getfield 125, 3) := by decide +kernel
theorem dX11_datum_60 : decode cX11_datum 60 = .ok (.bipush 14, 2) := by decide +kernel
theorem dX11_datum_62 : decode cX11_datum 62 = .ok (.iload_n 3, 1) := by decide +kernel
theorem dX11_datum_63 : decode cX11_datum 63 = .ok (.iadd, 1) := by decide +kernel
theorem dX11_datum_64 : decode cX11_datum 64 = .ok (.iaload, 1) := by decide +kernel
theorem dX11_datum_65 : decode cX11_datum 65 = .ok (.iconst 2, 1) := by decide +kernel
theorem dX11_datum_66 : decode cX11_datum 66 = .ok (.if_icmp .ne 9, 3) := by decide +kernel
theorem dX11_datum_69 : decode cX11_datum 69 = .ok (.aload_n 0, 1) := by decide +kernel
theorem dX11_datum_70 : decode cX11_datum 70 = .ok (.iload_n 3, 1) := by decide +kernel
theorem dX11_datum_71 : decode cX11_datum 71 = .ok (.invokevirtual 358, 3) := by decide +kernel
theorem dX11_datum_74 : decode cX11_datum 74 = .ok (.ireturn, 1) := by decide +kernel
theorem dX11_datum_75 : decode cX11_datum 75 = .ok (.aload_n 0, 1) := by decide +kernel
theorem dX11_datum_76 : decode cX11_datum 76 = .ok (.getfield 125, 3) := by decide +kernel
theorem dX11_datum_79 : decode cX11_datum 79 = .ok (.bipush 14, 2) := by decide +kernel
theorem dX11_datum_81 : decode cX11_datum 81 = .ok (.iload_n 3, 1) := by decide +kernel
theorem dX11_datum_82 : decode cX11_datum 82 = .ok (.iadd, 1) := by decide +kernel
theorem dX11_datum_83 : decode cX11_datum 83 = .ok (.iaload, 1) := by decide +kernel
theorem dX11_datum_84 : decode cX11_datum 84 = .ok (.iconst 1, 1) := by decide +kernel
theorem dX11_datum_85 : decode cX11_datum 85 = .ok (.if_icmp .ne 14, 3) := by decide +kernel
theorem dX11_datum_88 : decode cX11_datum 88 = .ok (.aload_n 0, 1) := by decide +kernel
theorem dX11_datum_89 : decode cX11_datum 89 = .ok (.getfield 86, 3) := by decide +kernel
theorem dX11_datum_92 : decode cX11_datum 92 = .ok (.iload_n 3, 1) := by decide +kernel
theorem dX11_datum_93 : decode cX11_datum 93 = .ok (.iconst 5, 1) := by decide +kernel
theorem dX11_datum_94 : decode cX11_datum 94 = .ok (.idiv, 1) := by decide +kernel
theorem dX11_datum_95 : decode cX11_datum 95 = .ok (.iaload, 1) := by decide +kernel
theorem dX11_datum_96 : decode cX11_datum 96 = .ok (.goto 9, 3) := by decide +kernel
theorem dX11_datum_99 : decode cX11_datum 99 = .ok (.aload_n 0, 1) := by decide +kernel
theorem dX11_datum_100 : decode cX11_datum 100 = .ok (.getfield 92, 3) := by decide +kernel
theorem dX11_datum_103 : decode cX11_datum 103 = .ok (.iload_n 3, 1) := by decide +kernel
theorem dX11_datum_104 : decode cX11_datum 104 = .ok (.iaload, 1) := by decide +kernel
theorem dX11_datum_105 : decode cX11_datum 105 = .ok (.ireturn, 1) := by decide +kernel
theorem dX11_at_0 : decode cX11_at 0 = .ok (.aload_n 0, 1) := by decide +kernel
theorem dX11_at_1 : decode cX11_at 1 = .ok (.iconst 0, 1) := by decide +kernel
theorem dX11_at_2 : decode cX11_at 2 = .ok (.putfield 152, 3) := by decide +kernel
theorem dX11_at_5 : decode cX11_at 5 = .ok (.aload_n 0, 1) := by decide +kernel
theorem dX11_at_6 : decode cX11_at 6 = .ok (.iload_n 1, 1) := by decide +kernel
theorem dX11_at_7 : decode cX11_at 7 = .ok (.invokevirtual 385, 3) := by decide +kernel
theorem dX11_at_10 : decode cX11_at 10 = .ok (.ifCond .eq 7, 3) := by decide +kernel
theorem dX11_at_13 : decode cX11_at 13 = .ok (.iload_n 2, 1) := by decide +kernel
theorem dX11_at_14 : decode cX11_at 14 = .ok (.ifCond .ge 5, 3) := by decide +kernel
theorem dX11_at_17 : decode cX11_at 17 = .ok (.iconst (-1), 1) := by decide +kernel
theorem dX11_at_18 : decode cX11_at 18 = .ok (.ireturn, 1) := by decide +kernel
theorem dX11_at_19 : decode cX11_at 19 = .ok (.iconst 0, 1) := by decide +kernel
theorem dX11_at_20 : decode cX11_at 20 = .ok (.istore_n 3, 1) := by decide +kernel
theorem dX11_at_21 : decode cX11_at 21 = .ok (.iload_n 3, 1) := by decide +kernel
theorem dX11_at_22 : decode cX11_at 22 = .ok (.aload_n 0, 1) := by decide +kernel
theorem dX11_at_23 : decode cX11_at 23 = .ok (.getfield 71, 3) := by decide +kernel
theorem dX11_at_26 : decode cX11_at 26 = .ok (.iconst 0, 1) := by decide +kernel
theorem dX11_at_27 : decode cX11_at 27 = .ok (.iaload, 1) := by decide +kernel
theorem dX11_at_28 : decode cX11_at 28 = .ok (.if_icmp .ge 73, 3) := by decide +kernel
theorem dX11_at_31 : decode cX11_at 31 = .ok (.aload_n 0, 1) := by decide +kernel
theorem dX11_at_32 : decode cX11_at 32 = .ok (.iload_n 3, 1) := by decide +kernel
theorem dX11_at_33 : decode cX11_at 33 = .ok (.iload_n 1, 1) := by decide +kernel
theorem dX11_at_34 : decode cX11_at 34 = .ok (.invokevirtual 309, 3) := by decide +kernel
theorem dX11_at_37 : decode cX11_at 37 = .ok (.istore 4, 2) := by decide +kernel
theorem dX11_at_39 : decode cX11_at 39 = .ok (.iload 4, 2) := by decide +kernel
theorem dX11_at_41 : decode cX11_at 41 = .ok (.ifCond .lt 26, 3) := by decide +kernel
theorem dX11_at_44 : decode cX11_at 44 = .ok (.aload_n 0, 1) := by decide +kernel
theorem dX11_at_45 : decode cX11_at 45 = .ok (.getfield 92, 3) := by decide +kernel
theorem dX11_at_48 : decode cX11_at 48 = .ok (.iconst 5, 1) := by decide +kernel
theorem dX11_at_49 : decode cX11_at 49 = .ok (.iload_n 3, 1) := by decide +kernel
theorem dX11_at_50 : decode cX11_at 50 = .ok (.imul, 1) := by decide +kernel
theorem dX11_at_51 : decode cX11_at 51 = .ok (.iload 4, 2) := by decide +kernel
theorem dX11_at_53 : decode cX11_at 53 = .ok (.iadd, 1) := by decide +kernel
theorem dX11_at_54 : decode cX11_at 54 = .ok (.iaload, 1) := by decide +kernel
theorem dX11_at_55 : decode cX11_at 55 = .ok (.iload_n 2, 1) := by decide +kernel
theorem dX11_at_56 : decode cX11_at 56 = .ok (.if_icmp .ne 11, 3) := by decide +kernel
theorem dX11_at_59 : decode cX11_at 59 = .ok (.bipush 8, 2) := by decide +kernel
theorem dX11_at_61 : decode cX11_at 61 = .ok (.iload_n 3, 1) := by decide +kernel
theorem dX11_at_62 : decode cX11_at 62 = .ok (.imul, 1) := by decide +kernel
theorem dX11_at_63 : decode cX11_at 63 = .ok (.iload 4, 2) := by decide +kernel
theorem dX11_at_65 : decode cX11_at 65 = .ok (.iadd, 1) := by decide +kernel
theorem dX11_at_66 : decode cX11_at 66 = .ok (.ireturn, 1) := by decide +kernel
theorem dX11_at_67 : decode cX11_at 67 = .ok (.aload_n 0, 1) := by decide +kernel
theorem dX11_at_68 : decode cX11_at 68 = .ok (.getfield 83, 3) := by decide +kernel
theorem dX11_at_71 : decode cX11_at 71 = .ok (.iload_n 3, 1) := by decide +kernel
theorem dX11_at_72 : decode cX11_at 72 = .ok (.iaload, 1) := by decide +kernel
theorem dX11_at_73 : decode cX11_at 73 = .ok (.iload_n 1, 1) := by decide +kernel
theorem dX11_at_74 : decode cX11_at 74 = .ok (.if_icmp .ne 21, 3) := by decide +kernel
theorem dX11_at_77 : decode cX11_at 77 = .ok (.aload_n 0, 1) := by decide +kernel
theorem dX11_at_78 : decode cX11_at 78 = .ok (.getfield 86, 3) := by decide +kernel
theorem dX11_at_81 : decode cX11_at 81 = .ok (.iload_n 3, 1) := by decide +kernel
theorem dX11_at_82 : decode cX11_at 82 = .ok (.iaload, 1) := by decide +kernel
theorem dX11_at_83 : decode cX11_at 83 = .ok (.iload_n 2, 1) := by decide +kernel
theorem dX11_at_84 : decode cX11_at 84 = .ok (.if_icmp .ne 11, 3) := by decide +kernel
theorem dX11_at_87 : decode cX11_at 87 = .ok (.bipush 8, 2) := by decide +kernel
theorem dX11_at_89 : decode cX11_at 89 = .ok (.iload_n 3, 1) := by decide +kernel
theorem dX11_at_90 : decode cX11_at 90 = .ok (.imul, 1) := by decide +kernel
theorem dX11_at_91 : decode cX11_at 91 = .ok (.bipush 7, 2) := by decide +kernel
theorem dX11_at_93 : decode cX11_at 93 = .ok (.iadd, 1) := by decide +kernel
theorem dX11_at_94 : decode cX11_at 94 = .ok (.ireturn, 1) := by decide +kernel
theorem dX11_at_95 : decode cX11_at 95 = .ok (.iinc 3 1, 3) := by decide +kernel
theorem dX11_at_98 : decode cX11_at 98 = .ok (.goto (-77), 3) := by decide +kernel
theorem dX11_at_101 : decode cX11_at 101 = .ok (.iconst (-1), 1) := by decide +kernel
theorem dX11_at_102 : decode cX11_at 102 = .ok (.ireturn, 1) := by decide +kernel
theorem dX11_paritiesOn_0 : decode cX11_paritiesOn 0 = .ok (.iconst 0, 1) := by decide +kernel
theorem dX11_paritiesOn_1 : decode cX11_paritiesOn 1 = .ok (.istore_n 2, 1) := by decide +kernel
theorem dX11_paritiesOn_2 : decode cX11_paritiesOn 2 = .ok (.iconst 0, 1) := by decide +kernel
theorem dX11_paritiesOn_3 : decode cX11_paritiesOn 3 = .ok (.istore_n 3, 1) := by decide +kernel
theorem dX11_paritiesOn_4 : decode cX11_paritiesOn 4 = .ok (.iload_n 3, 1) := by decide +kernel
theorem dX11_paritiesOn_5 : decode cX11_paritiesOn 5 = .ok (.aload_n 0, 1) := by decide +kernel
theorem dX11_paritiesOn_6 : decode cX11_paritiesOn 6 = .ok (.getfield 71, 3) := by decide +kernel
theorem dX11_paritiesOn_9 : decode cX11_paritiesOn 9 = .ok (.iconst 0, 1) := by decide +kernel
theorem dX11_paritiesOn_10 : decode cX11_paritiesOn 10 = .ok (.iaload, 1) := by decide +kernel
theorem dX11_paritiesOn_11 : decode cX11_paritiesOn 11 = .ok (.if_icmp .ge 36, 3) := by decide +kernel
theorem dX11_paritiesOn_14 : decode cX11_paritiesOn 14 = .ok (.iload_n 2, 1) := by decide +kernel
theorem dX11_paritiesOn_15 : decode cX11_paritiesOn 15 = .ok (.aload_n 0, 1) := by decide +kernel
theorem dX11_paritiesOn_16 : decode cX11_paritiesOn 16 = .ok (.getfield 89, 3) := by decide +kernel
theorem dX11_paritiesOn_19 : decode cX11_paritiesOn 19 = .ok (.iconst 5, 1) := by decide +kernel
theorem dX11_paritiesOn_20 : decode cX11_paritiesOn 20 = .ok (.iload_n 3, 1) := by decide +kernel
theorem dX11_paritiesOn_21 : decode cX11_paritiesOn 21 = .ok (.imul, 1) := by decide +kernel
theorem dX11_paritiesOn_22 : decode cX11_paritiesOn 22 = .ok (.aload_n 0, 1) := by decide +kernel
theorem dX11_paritiesOn_23 : decode cX11_paritiesOn 23 = .ok (.getfield 80, 3) := by decide +kernel
theorem dX11_paritiesOn_26 : decode cX11_paritiesOn 26 = .ok (.iload_n 3, 1) := by decide +kernel
theorem dX11_paritiesOn_27 : decode cX11_paritiesOn 27 = .ok (.iaload, 1) := by decide +kernel
theorem dX11_paritiesOn_28 : decode cX11_paritiesOn 28 = .ok (.iadd, 1) := by decide +kernel
theorem dX11_paritiesOn_29 : decode cX11_paritiesOn 29 = .ok (.iaload, 1) := by decide +kernel
theorem dX11_paritiesOn_30 : decode cX11_paritiesOn 30 = .ok (.iload_n 1, 1) := by decide +kernel
theorem dX11_paritiesOn_31 : decode cX11_paritiesOn 31 = .ok (.if_icmp .ne 7, 3) := by decide +kernel
theorem dX11_paritiesOn_34 : decode cX11_paritiesOn 34 = .ok (.iconst 1, 1) := by decide +kernel
theorem dX11_paritiesOn_35 : decode cX11_paritiesOn 35 = .ok (.goto 4, 3) := by decide +kernel
theorem dX11_paritiesOn_38 : decode cX11_paritiesOn 38 = .ok (.iconst 0, 1) := by decide +kernel
theorem dX11_paritiesOn_39 : decode cX11_paritiesOn 39 = .ok (.iadd, 1) := by decide +kernel
theorem dX11_paritiesOn_40 : decode cX11_paritiesOn 40 = .ok (.istore_n 2, 1) := by decide +kernel
theorem dX11_paritiesOn_41 : decode cX11_paritiesOn 41 = .ok (.iinc 3 1, 3) := by decide +kernel
theorem dX11_paritiesOn_44 : decode cX11_paritiesOn 44 = .ok (.goto (-40), 3) := by decide +kernel
theorem dX11_paritiesOn_47 : decode cX11_paritiesOn 47 = .ok (.iload_n 2, 1) := by decide +kernel
theorem dX11_paritiesOn_48 : decode cX11_paritiesOn 48 = .ok (.ireturn, 1) := by decide +kernel
theorem dX11_ofDisk_0 : decode cX11_ofDisk 0 = .ok (.iload_n 2, 1) := by decide +kernel
theorem dX11_ofDisk_1 : decode cX11_ofDisk 1 = .ok (.iconst 1, 1) := by decide +kernel
theorem dX11_ofDisk_2 : decode cX11_ofDisk 2 = .ok (.if_icmp .ne 18, 3) := by decide +kernel
theorem dX11_ofDisk_5 : decode cX11_ofDisk 5 = .ok (.aload_n 0, 1) := by decide +kernel
theorem dX11_ofDisk_6 : decode cX11_ofDisk 6 = .ok (.iconst 0, 1) := by decide +kernel
theorem dX11_ofDisk_7 : decode cX11_ofDisk 7 = .ok (.iload_n 1, 1) := by decide +kernel
theorem dX11_ofDisk_8 : decode cX11_ofDisk 8 = .ok (.aload_n 0, 1) := by decide +kernel
theorem dX11_ofDisk_9 : decode cX11_ofDisk 9 = .ok (.getfield 71, 3) := by decide +kernel
theorem dX11_ofDisk_12 : decode cX11_ofDisk 12 = .ok (.iconst 0, 1) := by decide +kernel
theorem dX11_ofDisk_13 : decode cX11_ofDisk 13 = .ok (.iaload, 1) := by decide +kernel
theorem dX11_ofDisk_14 : decode cX11_ofDisk 14 = .ok (.invokevirtual 316, 3) := by decide +kernel
theorem dX11_ofDisk_17 : decode cX11_ofDisk 17 = .ok (.goto 28, 3) := by decide +kernel
theorem dX11_ofDisk_20 : decode cX11_ofDisk 20 = .ok (.iload_n 2, 1) := by decide +kernel
theorem dX11_ofDisk_21 : decode cX11_ofDisk 21 = .ok (.iconst 2, 1) := by decide +kernel
theorem dX11_ofDisk_22 : decode cX11_ofDisk 22 = .ok (.if_icmp .ne 11, 3) := by decide +kernel
theorem dX11_ofDisk_25 : decode cX11_ofDisk 25 = .ok (.aload_n 0, 1) := by decide +kernel
theorem dX11_ofDisk_26 : decode cX11_ofDisk 26 = .ok (.iload_n 1, 1) := by decide +kernel
theorem dX11_ofDisk_27 : decode cX11_ofDisk 27 = .ok (.invokevirtual 388, 3) := by decide +kernel
theorem dX11_ofDisk_30 : decode cX11_ofDisk 30 = .ok (.goto 15, 3) := by decide +kernel
theorem dX11_ofDisk_33 : decode cX11_ofDisk 33 = .ok (.aload_n 0, 1) := by decide +kernel
theorem dX11_ofDisk_34 : decode cX11_ofDisk 34 = .ok (.iconst 0, 1) := by decide +kernel
theorem dX11_ofDisk_35 : decode cX11_ofDisk 35 = .ok (.iload_n 1, 1) := by decide +kernel
theorem dX11_ofDisk_36 : decode cX11_ofDisk 36 = .ok (.aload_n 0, 1) := by decide +kernel
theorem dX11_ofDisk_37 : decode cX11_ofDisk 37 = .ok (.getfield 71, 3) := by decide +kernel
theorem dX11_ofDisk_40 : decode cX11_ofDisk 40 = .ok (.iconst 0, 1) := by decide +kernel
theorem dX11_ofDisk_41 : decode cX11_ofDisk 41 = .ok (.iaload, 1) := by decide +kernel
theorem dX11_ofDisk_42 : decode cX11_ofDisk 42 = .ok (.invokevirtual 312, 3) := by decide +kernel
theorem dX11_ofDisk_45 : decode cX11_ofDisk 45 = .ok (.ireturn, 1) := by decide +kernel
theorem dX11_disk_0 : decode cX11_disk 0 = .ok (.aload_n 0, 1) := by decide +kernel
theorem dX11_disk_1 : decode cX11_disk 1 = .ok (.iconst 0, 1) := by decide +kernel
theorem dX11_disk_2 : decode cX11_disk 2 = .ok (.putfield 152, 3) := by decide +kernel
theorem dX11_disk_5 : decode cX11_disk 5 = .ok (.aload_n 0, 1) := by decide +kernel
theorem dX11_disk_6 : decode cX11_disk 6 = .ok (.iload_n 1, 1) := by decide +kernel
theorem dX11_disk_7 : decode cX11_disk 7 = .ok (.invokevirtual 385, 3) := by decide +kernel
theorem dX11_disk_10 : decode cX11_disk 10 = .ok (.ifCond .eq 12, 3) := by decide +kernel
theorem dX11_disk_13 : decode cX11_disk 13 = .ok (.iload_n 2, 1) := by decide +kernel
theorem dX11_disk_14 : decode cX11_disk 14 = .ok (.iconst 0, 1) := by decide +kernel
theorem dX11_disk_15 : decode cX11_disk 15 = .ok (.iconst 5, 1) := by decide +kernel
theorem dX11_disk_16 : decode cX11_disk 16 = .ok (.invokestatic 239, 3) := by decide +kernel
theorem dX11_disk_19 : decode cX11_disk 19 = .ok (.ifCond .ne 5, 3) := by decide +kernel
theorem dX11_disk_22 : decode cX11_disk 22 = .ok (.iconst (-1), 1) := by decide +kernel
theorem dX11_disk_23 : decode cX11_disk 23 = .ok (.ireturn, 1) := by decide +kernel
theorem dX11_disk_24 : decode cX11_disk 24 = .ok (.iload_n 2, 1) := by decide +kernel
theorem dX11_disk_25 : decode cX11_disk 25 = .ok (.ifCond .ne 14, 3) := by decide +kernel
theorem dX11_disk_28 : decode cX11_disk 28 = .ok (.aload_n 0, 1) := by decide +kernel
theorem dX11_disk_29 : decode cX11_disk 29 = .ok (.getfield 125, 3) := by decide +kernel
theorem dX11_disk_32 : decode cX11_disk 32 = .ok (.iconst 0, 1) := by decide +kernel
theorem dX11_disk_33 : decode cX11_disk 33 = .ok (.iaload, 1) := by decide +kernel
theorem dX11_disk_34 : decode cX11_disk 34 = .ok (.iload_n 1, 1) := by decide +kernel
theorem dX11_disk_35 : decode cX11_disk 35 = .ok (.ishr, 1) := by decide +kernel
theorem dX11_disk_36 : decode cX11_disk 36 = .ok (.iconst 1, 1) := by decide +kernel
theorem dX11_disk_37 : decode cX11_disk 37 = .ok (.iand, 1) := by decide +kernel
theorem dX11_disk_38 : decode cX11_disk 38 = .ok (.ireturn, 1) := by decide +kernel
theorem dX11_disk_39 : decode cX11_disk 39 = .ok (.iload_n 2, 1) := by decide +kernel
theorem dX11_disk_40 : decode cX11_disk 40 = .ok (.iconst 4, 1) := by decide +kernel
theorem dX11_disk_41 : decode cX11_disk 41 = .ok (.if_icmp .ge 12, 3) := by decide +kernel
theorem dX11_disk_44 : decode cX11_disk 44 = .ok (.aload_n 0, 1) := by decide +kernel
theorem dX11_disk_45 : decode cX11_disk 45 = .ok (.iload_n 1, 1) := by decide +kernel
theorem dX11_disk_46 : decode cX11_disk 46 = .ok (.iload_n 2, 1) := by decide +kernel
theorem dX11_disk_47 : decode cX11_disk 47 = .ok (.invokevirtual 391, 3) := by decide +kernel
theorem dX11_disk_50 : decode cX11_disk 50 = .ok (.goto 24, 3) := by decide +kernel
theorem dX11_disk_53 : decode cX11_disk 53 = .ok (.iload_n 2, 1) := by decide +kernel
theorem dX11_disk_54 : decode cX11_disk 54 = .ok (.iconst 4, 1) := by decide +kernel
theorem dX11_disk_55 : decode cX11_disk 55 = .ok (.if_icmp .ne 14, 3) := by decide +kernel
theorem dX11_disk_58 : decode cX11_disk 58 = .ok (.aload_n 0, 1) := by decide +kernel
theorem dX11_disk_59 : decode cX11_disk 59 = .ok (.getfield 125, 3) := by decide +kernel
theorem dX11_disk_62 : decode cX11_disk 62 = .ok (.iconst 1, 1) := by decide +kernel
theorem dX11_disk_63 : decode cX11_disk 63 = .ok (.iload_n 1, 1) := by decide +kernel
theorem dX11_disk_64 : decode cX11_disk 64 = .ok (.iadd, 1) := by decide +kernel
theorem dX11_disk_65 : decode cX11_disk 65 = .ok (.iaload, 1) := by decide +kernel
theorem dX11_disk_66 : decode cX11_disk 66 = .ok (.goto 8, 3) := by decide +kernel
theorem dX11_disk_69 : decode cX11_disk 69 = .ok (.aload_n 0, 1) := by decide +kernel
theorem dX11_disk_70 : decode cX11_disk 70 = .ok (.iload_n 1, 1) := by decide +kernel
theorem dX11_disk_71 : decode cX11_disk 71 = .ok (.invokevirtual 394, 3) := by decide +kernel
theorem dX11_disk_74 : decode cX11_disk 74 = .ok (.ireturn, 1) := by decide +kernel
theorem dX11_read_0 : decode cX11_read 0 = .ok (.aload_n 0, 1) := by decide +kernel
theorem dX11_read_1 : decode cX11_read 1 = .ok (.iconst 0, 1) := by decide +kernel
theorem dX11_read_2 : decode cX11_read 2 = .ok (.putfield 152, 3) := by decide +kernel
theorem dX11_read_5 : decode cX11_read 5 = .ok (.aload_n 0, 1) := by decide +kernel
theorem dX11_read_6 : decode cX11_read 6 = .ok (.iload_n 1, 1) := by decide +kernel
theorem dX11_read_7 : decode cX11_read 7 = .ok (.invokevirtual 382, 3) := by decide +kernel
theorem dX11_read_10 : decode cX11_read 10 = .ok (.ifCond .eq 19, 3) := by decide +kernel
theorem dX11_read_13 : decode cX11_read 13 = .ok (.aload_n 0, 1) := by decide +kernel
theorem dX11_read_14 : decode cX11_read 14 = .ok (.iload_n 1, 1) := by decide +kernel
theorem dX11_read_15 : decode cX11_read 15 = .ok (.invokevirtual 397, 3) := by decide +kernel
theorem dX11_read_18 : decode cX11_read 18 = .ok (.ifCond .eq 11, 3) := by decide +kernel
theorem dX11_read_21 : decode cX11_read 21 = .ok (.aload_n 0, 1) := by decide +kernel
theorem dX11_read_22 : decode cX11_read 22 = .ok (.iload_n 1, 1) := by decide +kernel
theorem dX11_read_23 : decode cX11_read 23 = .ok (.invokevirtual 400, 3) := by decide +kernel
theorem dX11_read_26 : decode cX11_read 26 = .ok (.goto 4, 3) := by decide +kernel
theorem dX11_read_29 : decode cX11_read 29 = .ok (.iconst (-1), 1) := by decide +kernel
theorem dX11_read_30 : decode cX11_read 30 = .ok (.ireturn, 1) := by decide +kernel
theorem dX11_write_0 : decode cX11_write 0 = .ok (.aload_n 0, 1) := by decide +kernel
theorem dX11_write_1 : decode cX11_write 1 = .ok (.iconst 0, 1) := by decide +kernel
theorem dX11_write_2 : decode cX11_write 2 = .ok (.putfield 152, 3) := by decide +kernel
theorem dX11_write_5 : decode cX11_write 5 = .ok (.aload_n 0, 1) := by decide +kernel
theorem dX11_write_6 : decode cX11_write 6 = .ok (.iload_n 1, 1) := by decide +kernel
theorem dX11_write_7 : decode cX11_write 7 = .ok (.invokevirtual 382, 3) := by decide +kernel
theorem dX11_write_10 : decode cX11_write 10 = .ok (.ifCond .eq 31, 3) := by decide +kernel
theorem dX11_write_13 : decode cX11_write 13 = .ok (.iload_n 2, 1) := by decide +kernel
theorem dX11_write_14 : decode cX11_write 14 = .ok (.iconst 0, 1) := by decide +kernel
theorem dX11_write_15 : decode cX11_write 15 = .ok (.sipush 255, 3) := by decide +kernel
theorem dX11_write_18 : decode cX11_write 18 = .ok (.invokestatic 239, 3) := by decide +kernel
theorem dX11_write_21 : decode cX11_write 21 = .ok (.ifCond .eq 20, 3) := by decide +kernel
theorem dX11_write_24 : decode cX11_write 24 = .ok (.aload_n 0, 1) := by decide +kernel
theorem dX11_write_25 : decode cX11_write 25 = .ok (.iload_n 1, 1) := by decide +kernel
theorem dX11_write_26 : decode cX11_write 26 = .ok (.invokevirtual 403, 3) := by decide +kernel
theorem dX11_write_29 : decode cX11_write 29 = .ok (.ifCond .eq 12, 3) := by decide +kernel
theorem dX11_write_32 : decode cX11_write 32 = .ok (.aload_n 0, 1) := by decide +kernel
theorem dX11_write_33 : decode cX11_write 33 = .ok (.iload_n 1, 1) := by decide +kernel
theorem dX11_write_34 : decode cX11_write 34 = .ok (.iload_n 2, 1) := by decide +kernel
theorem dX11_write_35 : decode cX11_write 35 = .ok (.invokevirtual 406, 3) := by decide +kernel
theorem dX11_write_38 : decode cX11_write 38 = .ok (.goto 4, 3) := by decide +kernel
theorem dX11_write_41 : decode cX11_write 41 = .ok (.iconst (-1), 1) := by decide +kernel
theorem dX11_write_42 : decode cX11_write 42 = .ok (.ireturn, 1) := by decide +kernel
theorem dX11_lose_0 : decode cX11_lose 0 = .ok (.aload_n 0, 1) := by decide +kernel
theorem dX11_lose_1 : decode cX11_lose 1 = .ok (.iconst 0, 1) := by decide +kernel
theorem dX11_lose_2 : decode cX11_lose 2 = .ok (.putfield 152, 3) := by decide +kernel
theorem dX11_lose_5 : decode cX11_lose 5 = .ok (.aload_n 0, 1) := by decide +kernel
theorem dX11_lose_6 : decode cX11_lose 6 = .ok (.iload_n 1, 1) := by decide +kernel
theorem dX11_lose_7 : decode cX11_lose 7 = .ok (.invokevirtual 385, 3) := by decide +kernel
theorem dX11_lose_10 : decode cX11_lose 10 = .ok (.ifCond .eq 19, 3) := by decide +kernel
theorem dX11_lose_13 : decode cX11_lose 13 = .ok (.aload_n 0, 1) := by decide +kernel
theorem dX11_lose_14 : decode cX11_lose 14 = .ok (.iload_n 1, 1) := by decide +kernel
theorem dX11_lose_15 : decode cX11_lose 15 = .ok (.invokevirtual 373, 3) := by decide +kernel
theorem dX11_lose_18 : decode cX11_lose 18 = .ok (.ifCond .eq 11, 3) := by decide +kernel
theorem dX11_lose_21 : decode cX11_lose 21 = .ok (.aload_n 0, 1) := by decide +kernel
theorem dX11_lose_22 : decode cX11_lose 22 = .ok (.iload_n 1, 1) := by decide +kernel
theorem dX11_lose_23 : decode cX11_lose 23 = .ok (.invokevirtual 409, 3) := by decide +kernel
theorem dX11_lose_26 : decode cX11_lose 26 = .ok (.goto 4, 3) := by decide +kernel
theorem dX11_lose_29 : decode cX11_lose 29 = .ok (.iconst (-1), 1) := by decide +kernel
theorem dX11_lose_30 : decode cX11_lose 30 = .ok (.ireturn, 1) := by decide +kernel
theorem dX11_replace_0 : decode cX11_replace 0 = .ok (.aload_n 0, 1) := by decide +kernel
theorem dX11_replace_1 : decode cX11_replace 1 = .ok (.iconst 0, 1) := by decide +kernel
theorem dX11_replace_2 : decode cX11_replace 2 = .ok (.putfield 152, 3) := by decide +kernel
theorem dX11_replace_5 : decode cX11_replace 5 = .ok (.aload_n 0, 1) := by decide +kernel
theorem dX11_replace_6 : decode cX11_replace 6 = .ok (.iload_n 1, 1) := by decide +kernel
theorem dX11_replace_7 : decode cX11_replace 7 = .ok (.invokevirtual 385, 3) := by decide +kernel
theorem dX11_replace_10 : decode cX11_replace 10 = .ok (.ifCond .eq 11, 3) := by decide +kernel
theorem dX11_replace_13 : decode cX11_replace 13 = .ok (.aload_n 0, 1) := by decide +kernel
theorem dX11_replace_14 : decode cX11_replace 14 = .ok (.iload_n 1, 1) := by decide +kernel
theorem dX11_replace_15 : decode cX11_replace 15 = .ok (.invokevirtual 373, 3) := by decide +kernel
theorem dX11_replace_18 : decode cX11_replace 18 = .ok (.ifCond .eq 5, 3) := by decide +kernel
theorem dX11_replace_21 : decode cX11_replace 21 = .ok (.iconst 0, 1) := by decide +kernel
theorem dX11_replace_22 : decode cX11_replace 22 = .ok (.ireturn, 1) := by decide +kernel
theorem dX11_replace_23 : decode cX11_replace 23 = .ok (.aload_n 0, 1) := by decide +kernel
theorem dX11_replace_24 : decode cX11_replace 24 = .ok (.getfield 125, 3) := by decide +kernel
theorem dX11_replace_27 : decode cX11_replace 27 = .ok (.iconst 0, 1) := by decide +kernel
theorem dX11_replace_28 : decode cX11_replace 28 = .ok (.dup2, 1) := by decide +kernel
theorem dX11_replace_29 : decode cX11_replace 29 = .ok (.iaload, 1) := by decide +kernel
theorem dX11_replace_30 : decode cX11_replace 30 = .ok (.iconst 1, 1) := by decide +kernel
theorem dX11_replace_31 : decode cX11_replace 31 = .ok (.iload_n 1, 1) := by decide +kernel
theorem dX11_replace_32 : decode cX11_replace 32 = .ok (.ishl, 1) := by decide +kernel
theorem dX11_replace_33 : decode cX11_replace 33 = .ok (.ior, 1) := by decide +kernel
theorem dX11_replace_34 : decode cX11_replace 34 = .ok (.iastore, 1) := by decide +kernel
theorem dX11_replace_35 : decode cX11_replace 35 = .ok (.iconst 1, 1) := by decide +kernel
theorem dX11_replace_36 : decode cX11_replace 36 = .ok (.ireturn, 1) := by decide +kernel
theorem dX11_rebuild_0 : decode cX11_rebuild 0 = .ok (.aload_n 0, 1) := by decide +kernel
theorem dX11_rebuild_1 : decode cX11_rebuild 1 = .ok (.iconst 0, 1) := by decide +kernel
theorem dX11_rebuild_2 : decode cX11_rebuild 2 = .ok (.putfield 152, 3) := by decide +kernel
theorem dX11_rebuild_5 : decode cX11_rebuild 5 = .ok (.iload_n 1, 1) := by decide +kernel
theorem dX11_rebuild_6 : decode cX11_rebuild 6 = .ok (.iconst 1, 1) := by decide +kernel
theorem dX11_rebuild_7 : decode cX11_rebuild 7 = .ok (.bipush 40, 2) := by decide +kernel
theorem dX11_rebuild_9 : decode cX11_rebuild 9 = .ok (.invokestatic 239, 3) := by decide +kernel
theorem dX11_rebuild_12 : decode cX11_rebuild 12 = .ok (.ifCond .eq 11, 3) := by decide +kernel
theorem dX11_rebuild_15 : decode cX11_rebuild 15 = .ok (.aload_n 0, 1) := by decide +kernel
theorem dX11_rebuild_16 : decode cX11_rebuild 16 = .ok (.iload_n 1, 1) := by decide +kernel
theorem dX11_rebuild_17 : decode cX11_rebuild 17 = .ok (.invokevirtual 412, 3) := by decide +kernel
theorem dX11_rebuild_20 : decode cX11_rebuild 20 = .ok (.goto 4, 3) := by decide +kernel
theorem dX11_rebuild_23 : decode cX11_rebuild 23 = .ok (.iconst (-1), 1) := by decide +kernel
theorem dX11_rebuild_24 : decode cX11_rebuild 24 = .ok (.ireturn, 1) := by decide +kernel
theorem dX11_home_0 : decode cX11_home 0 = .ok (.aload_n 0, 1) := by decide +kernel
theorem dX11_home_1 : decode cX11_home 1 = .ok (.iconst 0, 1) := by decide +kernel
theorem dX11_home_2 : decode cX11_home 2 = .ok (.putfield 152, 3) := by decide +kernel
theorem dX11_home_5 : decode cX11_home 5 = .ok (.iload_n 1, 1) := by decide +kernel
theorem dX11_home_6 : decode cX11_home 6 = .ok (.iconst 1, 1) := by decide +kernel
theorem dX11_home_7 : decode cX11_home 7 = .ok (.bipush 40, 2) := by decide +kernel
theorem dX11_home_9 : decode cX11_home 9 = .ok (.invokestatic 239, 3) := by decide +kernel
theorem dX11_home_12 : decode cX11_home 12 = .ok (.ifCond .eq 11, 3) := by decide +kernel
theorem dX11_home_15 : decode cX11_home 15 = .ok (.aload_n 0, 1) := by decide +kernel
theorem dX11_home_16 : decode cX11_home 16 = .ok (.iload_n 1, 1) := by decide +kernel
theorem dX11_home_17 : decode cX11_home 17 = .ok (.invokevirtual 415, 3) := by decide +kernel
theorem dX11_home_20 : decode cX11_home 20 = .ok (.goto 4, 3) := by decide +kernel
theorem dX11_home_23 : decode cX11_home 23 = .ok (.iconst (-1), 1) := by decide +kernel
theorem dX11_home_24 : decode cX11_home 24 = .ok (.ireturn, 1) := by decide +kernel
theorem dX11_isDone_0 : decode cX11_isDone 0 = .ok (.iload_n 1, 1) := by decide +kernel
theorem dX11_isDone_1 : decode cX11_isDone 1 = .ok (.ifCond .ne 22, 3) := by decide +kernel
theorem dX11_isDone_4 : decode cX11_isDone 4 = .ok (.aload_n 0, 1) := by decide +kernel
theorem dX11_isDone_5 : decode cX11_isDone 5 = .ok (.iload_n 2, 1) := by decide +kernel
theorem dX11_isDone_6 : decode cX11_isDone 6 = .ok (.invokevirtual 397, 3) := by decide +kernel
theorem dX11_isDone_9 : decode cX11_isDone 9 = .ok (.ifCond .ne 5, 3) := by decide +kernel
theorem dX11_isDone_12 : decode cX11_isDone 12 = .ok (.iconst 0, 1) := by decide +kernel
theorem dX11_isDone_13 : decode cX11_isDone 13 = .ok (.ireturn, 1) := by decide +kernel
theorem dX11_isDone_14 : decode cX11_isDone 14 = .ok (.aload_n 0, 1) := by decide +kernel
theorem dX11_isDone_15 : decode cX11_isDone 15 = .ok (.iload_n 2, 1) := by decide +kernel
theorem dX11_isDone_16 : decode cX11_isDone 16 = .ok (.invokevirtual 400, 3) := by decide +kernel
theorem dX11_isDone_19 : decode cX11_isDone 19 = .ok (.pop, 1) := by decide +kernel
theorem dX11_isDone_20 : decode cX11_isDone 20 = .ok (.goto 102, 3) := by decide +kernel
theorem dX11_isDone_23 : decode cX11_isDone 23 = .ok (.iload_n 1, 1) := by decide +kernel
theorem dX11_isDone_24 : decode cX11_isDone 24 = .ok (.iconst 1, 1) := by decide +kernel
theorem dX11_isDone_25 : decode cX11_isDone 25 = .ok (.if_icmp .ne 23, 3) := by decide +kernel
theorem dX11_isDone_28 : decode cX11_isDone 28 = .ok (.aload_n 0, 1) := by decide +kernel
theorem dX11_isDone_29 : decode cX11_isDone 29 = .ok (.iload_n 2, 1) := by decide +kernel
theorem dX11_isDone_30 : decode cX11_isDone 30 = .ok (.invokevirtual 403, 3) := by decide +kernel
theorem dX11_isDone_33 : decode cX11_isDone 33 = .ok (.ifCond .ne 5, 3) := by decide +kernel
theorem dX11_isDone_36 : decode cX11_isDone 36 = .ok (.iconst 0, 1) := by decide +kernel
theorem dX11_isDone_37 : decode cX11_isDone 37 = .ok (.ireturn, 1) := by decide +kernel
theorem dX11_isDone_38 : decode cX11_isDone 38 = .ok (.aload_n 0, 1) := by decide +kernel
theorem dX11_isDone_39 : decode cX11_isDone 39 = .ok (.iload_n 2, 1) := by decide +kernel
theorem dX11_isDone_40 : decode cX11_isDone 40 = .ok (.iload_n 3, 1) := by decide +kernel
theorem dX11_isDone_41 : decode cX11_isDone 41 = .ok (.invokevirtual 406, 3) := by decide +kernel
theorem dX11_isDone_44 : decode cX11_isDone 44 = .ok (.pop, 1) := by decide +kernel
theorem dX11_isDone_45 : decode cX11_isDone 45 = .ok (.goto 77, 3) := by decide +kernel
theorem dX11_isDone_48 : decode cX11_isDone 48 = .ok (.iload_n 1, 1) := by decide +kernel
theorem dX11_isDone_49 : decode cX11_isDone 49 = .ok (.iconst 2, 1) := by decide +kernel
theorem dX11_isDone_50 : decode cX11_isDone 50 = .ok (.if_icmp .ne 22, 3) := by decide +kernel
theorem dX11_isDone_53 : decode cX11_isDone 53 = .ok (.aload_n 0, 1) := by decide +kernel
theorem dX11_isDone_54 : decode cX11_isDone 54 = .ok (.iload_n 2, 1) := by decide +kernel
theorem dX11_isDone_55 : decode cX11_isDone 55 = .ok (.invokevirtual 373, 3) := by decide +kernel
theorem dX11_isDone_58 : decode cX11_isDone 58 = .ok (.ifCond .ne 5, 3) := by decide +kernel
theorem dX11_isDone_61 : decode cX11_isDone 61 = .ok (.iconst 0, 1) := by decide +kernel
theorem dX11_isDone_62 : decode cX11_isDone 62 = .ok (.ireturn, 1) := by decide +kernel
theorem dX11_isDone_63 : decode cX11_isDone 63 = .ok (.aload_n 0, 1) := by decide +kernel
theorem dX11_isDone_64 : decode cX11_isDone 64 = .ok (.iload_n 2, 1) := by decide +kernel
theorem dX11_isDone_65 : decode cX11_isDone 65 = .ok (.invokevirtual 409, 3) := by decide +kernel
theorem dX11_isDone_68 : decode cX11_isDone 68 = .ok (.pop, 1) := by decide +kernel
theorem dX11_isDone_69 : decode cX11_isDone 69 = .ok (.goto 53, 3) := by decide +kernel
theorem dX11_isDone_72 : decode cX11_isDone 72 = .ok (.iload_n 1, 1) := by decide +kernel
theorem dX11_isDone_73 : decode cX11_isDone 73 = .ok (.iconst 3, 1) := by decide +kernel
theorem dX11_isDone_74 : decode cX11_isDone 74 = .ok (.if_icmp .ne 28, 3) := by decide +kernel
theorem dX11_isDone_77 : decode cX11_isDone 77 = .ok (.aload_n 0, 1) := by decide +kernel
theorem dX11_isDone_78 : decode cX11_isDone 78 = .ok (.iload_n 2, 1) := by decide +kernel
theorem dX11_isDone_79 : decode cX11_isDone 79 = .ok (.invokevirtual 373, 3) := by decide +kernel
theorem dX11_isDone_82 : decode cX11_isDone 82 = .ok (.ifCond .eq 5, 3) := by decide +kernel
theorem dX11_isDone_85 : decode cX11_isDone 85 = .ok (.iconst 0, 1) := by decide +kernel
theorem dX11_isDone_86 : decode cX11_isDone 86 = .ok (.ireturn, 1) := by decide +kernel
theorem dX11_isDone_87 : decode cX11_isDone 87 = .ok (.aload_n 0, 1) := by decide +kernel
theorem dX11_isDone_88 : decode cX11_isDone 88 = .ok (.getfield 125, 3) := by decide +kernel
theorem dX11_isDone_91 : decode cX11_isDone 91 = .ok (.iconst 0, 1) := by decide +kernel
theorem dX11_isDone_92 : decode cX11_isDone 92 = .ok (.dup2, 1) := by decide +kernel
theorem dX11_isDone_93 : decode cX11_isDone 93 = .ok (.iaload, 1) := by decide +kernel
theorem dX11_isDone_94 : decode cX11_isDone 94 = .ok (.iconst 1, 1) := by decide +kernel
theorem dX11_isDone_95 : decode cX11_isDone 95 = .ok (.iload_n 2, 1) := by decide +kernel
theorem dX11_isDone_96 : decode cX11_isDone 96 = .ok (.ishl, 1) := by decide +kernel
theorem dX11_isDone_97 : decode cX11_isDone 97 = .ok (.ior, 1) := by decide +kernel
theorem dX11_isDone_98 : decode cX11_isDone 98 = .ok (.iastore, 1) := by decide +kernel
theorem dX11_isDone_99 : decode cX11_isDone 99 = .ok (.goto 23, 3) := by decide +kernel
theorem dX11_isDone_102 : decode cX11_isDone 102 = .ok (.iload_n 1, 1) := by decide +kernel
theorem dX11_isDone_103 : decode cX11_isDone 103 = .ok (.iconst 4, 1) := by decide +kernel
theorem dX11_isDone_104 : decode cX11_isDone 104 = .ok (.if_icmp .ne 12, 3) := by decide +kernel
theorem dX11_isDone_107 : decode cX11_isDone 107 = .ok (.aload_n 0, 1) := by decide +kernel
theorem dX11_isDone_108 : decode cX11_isDone 108 = .ok (.iload_n 2, 1) := by decide +kernel
theorem dX11_isDone_109 : decode cX11_isDone 109 = .ok (.invokevirtual 412, 3) := by decide +kernel
theorem dX11_isDone_112 : decode cX11_isDone 112 = .ok (.pop, 1) := by decide +kernel
theorem dX11_isDone_113 : decode cX11_isDone 113 = .ok (.goto 9, 3) := by decide +kernel
theorem dX11_isDone_116 : decode cX11_isDone 116 = .ok (.aload_n 0, 1) := by decide +kernel
theorem dX11_isDone_117 : decode cX11_isDone 117 = .ok (.iload_n 2, 1) := by decide +kernel
theorem dX11_isDone_118 : decode cX11_isDone 118 = .ok (.invokevirtual 415, 3) := by decide +kernel
theorem dX11_isDone_121 : decode cX11_isDone 121 = .ok (.pop, 1) := by decide +kernel
theorem dX11_isDone_122 : decode cX11_isDone 122 = .ok (.iconst 1, 1) := by decide +kernel
theorem dX11_isDone_123 : decode cX11_isDone 123 = .ok (.ireturn, 1) := by decide +kernel
theorem dX11_judged_0 : decode cX11_judged 0 = .ok (.aload_n 0, 1) := by decide +kernel
theorem dX11_judged_1 : decode cX11_judged 1 = .ok (.iconst 0, 1) := by decide +kernel
theorem dX11_judged_2 : decode cX11_judged 2 = .ok (.putfield 152, 3) := by decide +kernel
theorem dX11_judged_5 : decode cX11_judged 5 = .ok (.iload_n 1, 1) := by decide +kernel
theorem dX11_judged_6 : decode cX11_judged 6 = .ok (.iconst 0, 1) := by decide +kernel
theorem dX11_judged_7 : decode cX11_judged 7 = .ok (.iconst 2, 1) := by decide +kernel
theorem dX11_judged_8 : decode cX11_judged 8 = .ok (.invokestatic 239, 3) := by decide +kernel
theorem dX11_judged_11 : decode cX11_judged 11 = .ok (.ifCond .ne 6, 3) := by decide +kernel
theorem dX11_judged_14 : decode cX11_judged 14 = .ok (.bipush (-2), 2) := by decide +kernel
theorem dX11_judged_16 : decode cX11_judged 16 = .ok (.ireturn, 1) := by decide +kernel
theorem dX11_judged_17 : decode cX11_judged 17 = .ok (.aload_n 0, 1) := by decide +kernel
theorem dX11_judged_18 : decode cX11_judged 18 = .ok (.getfield 125, 3) := by decide +kernel
theorem dX11_judged_21 : decode cX11_judged 21 = .ok (.iconst 0, 1) := by decide +kernel
theorem dX11_judged_22 : decode cX11_judged 22 = .ok (.aload_n 0, 1) := by decide +kernel
theorem dX11_judged_23 : decode cX11_judged 23 = .ok (.getfield 128, 3) := by decide +kernel
theorem dX11_judged_26 : decode cX11_judged 26 = .ok (.iconst 0, 1) := by decide +kernel
theorem dX11_judged_27 : decode cX11_judged 27 = .ok (.invokestatic 418, 3) := by decide +kernel
theorem dX11_judged_30 : decode cX11_judged 30 = .ok (.aload_n 0, 1) := by decide +kernel
theorem dX11_judged_31 : decode cX11_judged 31 = .ok (.invokevirtual 149, 3) := by decide +kernel
theorem dX11_judged_34 : decode cX11_judged 34 = .ok (.iconst (-1), 1) := by decide +kernel
theorem dX11_judged_35 : decode cX11_judged 35 = .ok (.istore_n 2, 1) := by decide +kernel
theorem dX11_judged_36 : decode cX11_judged 36 = .ok (.iconst 0, 1) := by decide +kernel
theorem dX11_judged_37 : decode cX11_judged 37 = .ok (.istore_n 3, 1) := by decide +kernel
theorem dX11_judged_38 : decode cX11_judged 38 = .ok (.iload_n 3, 1) := by decide +kernel
theorem dX11_judged_39 : decode cX11_judged 39 = .ok (.aload_n 0, 1) := by decide +kernel
theorem dX11_judged_40 : decode cX11_judged 40 = .ok (.getfield 104, 3) := by decide +kernel
theorem dX11_judged_43 : decode cX11_judged 43 = .ok (.iconst 0, 1) := by decide +kernel
theorem dX11_judged_44 : decode cX11_judged 44 = .ok (.iaload, 1) := by decide +kernel
theorem dX11_judged_45 : decode cX11_judged 45 = .ok (.if_icmp .ge 40, 3) := by decide +kernel
theorem dX11_judged_48 : decode cX11_judged 48 = .ok (.aload_n 0, 1) := by decide +kernel
theorem dX11_judged_49 : decode cX11_judged 49 = .ok (.aload_n 0, 1) := by decide +kernel
theorem dX11_judged_50 : decode cX11_judged 50 = .ok (.getfield 107, 3) := by decide +kernel
theorem dX11_judged_53 : decode cX11_judged 53 = .ok (.iload_n 3, 1) := by decide +kernel
theorem dX11_judged_54 : decode cX11_judged 54 = .ok (.iaload, 1) := by decide +kernel
theorem dX11_judged_55 : decode cX11_judged 55 = .ok (.aload_n 0, 1) := by decide +kernel
theorem dX11_judged_56 : decode cX11_judged 56 = .ok (.getfield 110, 3) := by decide +kernel
theorem dX11_judged_59 : decode cX11_judged 59 = .ok (.iload_n 3, 1) := by decide +kernel
theorem dX11_judged_60 : decode cX11_judged 60 = .ok (.iaload, 1) := by decide +kernel
theorem dX11_judged_61 : decode cX11_judged 61 = .ok (.aload_n 0, 1) := by decide +kernel
theorem dX11_judged_62 : decode cX11_judged 62 = .ok (.getfield 113, 3) := by decide +kernel
theorem dX11_judged_65 : decode cX11_judged 65 = .ok (.iload_n 3, 1) := by decide +kernel
theorem dX11_judged_66 : decode cX11_judged 66 = .ok (.iaload, 1) := by decide +kernel
theorem dX11_judged_67 : decode cX11_judged 67 = .ok (.invokevirtual 422, 3) := by decide +kernel
theorem dX11_judged_70 : decode cX11_judged 70 = .ok (.ifCond .ne 9, 3) := by decide +kernel
theorem dX11_judged_73 : decode cX11_judged 73 = .ok (.iload_n 2, 1) := by decide +kernel
theorem dX11_judged_74 : decode cX11_judged 74 = .ok (.ifCond .ge 5, 3) := by decide +kernel
theorem dX11_judged_77 : decode cX11_judged 77 = .ok (.iload_n 3, 1) := by decide +kernel
theorem dX11_judged_78 : decode cX11_judged 78 = .ok (.istore_n 2, 1) := by decide +kernel
theorem dX11_judged_79 : decode cX11_judged 79 = .ok (.iinc 3 1, 3) := by decide +kernel
theorem dX11_judged_82 : decode cX11_judged 82 = .ok (.goto (-44), 3) := by decide +kernel
theorem dX11_judged_85 : decode cX11_judged 85 = .ok (.aload_n 0, 1) := by decide +kernel
theorem dX11_judged_86 : decode cX11_judged 86 = .ok (.invokevirtual 425, 3) := by decide +kernel
theorem dX11_judged_89 : decode cX11_judged 89 = .ok (.istore_n 3, 1) := by decide +kernel
theorem dX11_judged_90 : decode cX11_judged 90 = .ok (.aload_n 0, 1) := by decide +kernel
theorem dX11_judged_91 : decode cX11_judged 91 = .ok (.invokevirtual 428, 3) := by decide +kernel
theorem dX11_judged_94 : decode cX11_judged 94 = .ok (.istore 4, 2) := by decide +kernel
theorem dX11_judged_96 : decode cX11_judged 96 = .ok (.aload_n 0, 1) := by decide +kernel
theorem dX11_judged_97 : decode cX11_judged 97 = .ok (.getfield 128, 3) := by decide +kernel
theorem dX11_judged_100 : decode cX11_judged 100 = .ok (.iconst 0, 1) := by decide +kernel
theorem dX11_judged_101 : decode cX11_judged 101 = .ok (.aload_n 0, 1) := by decide +kernel
theorem dX11_judged_102 : decode cX11_judged 102 = .ok (.getfield 125, 3) := by decide +kernel
theorem dX11_judged_105 : decode cX11_judged 105 = .ok (.iconst 0, 1) := by decide +kernel
theorem dX11_judged_106 : decode cX11_judged 106 = .ok (.invokestatic 418, 3) := by decide +kernel
theorem dX11_judged_109 : decode cX11_judged 109 = .ok (.iload_n 1, 1) := by decide +kernel
theorem dX11_judged_110 : decode cX11_judged 110 = .ok (.ifCond .ne 7, 3) := by decide +kernel
theorem dX11_judged_113 : decode cX11_judged 113 = .ok (.iload_n 2, 1) := by decide +kernel
theorem dX11_judged_114 : decode cX11_judged 114 = .ok (.goto 14, 3) := by decide +kernel
theorem dX11_judged_117 : decode cX11_judged 117 = .ok (.iload_n 1, 1) := by decide +kernel
theorem dX11_judged_118 : decode cX11_judged 118 = .ok (.iconst 1, 1) := by decide +kernel
theorem dX11_judged_119 : decode cX11_judged 119 = .ok (.if_icmp .ne 7, 3) := by decide +kernel
theorem dX11_judged_122 : decode cX11_judged 122 = .ok (.iload_n 3, 1) := by decide +kernel
theorem dX11_judged_123 : decode cX11_judged 123 = .ok (.goto 5, 3) := by decide +kernel
theorem dX11_judged_126 : decode cX11_judged 126 = .ok (.iload 4, 2) := by decide +kernel
theorem dX11_judged_128 : decode cX11_judged 128 = .ok (.ireturn, 1) := by decide +kernel
theorem dX11_pairsOf_0 : decode cX11_pairsOf 0 = .ok (.iconst 0, 1) := by decide +kernel
theorem dX11_pairsOf_1 : decode cX11_pairsOf 1 = .ok (.istore_n 3, 1) := by decide +kernel
theorem dX11_pairsOf_2 : decode cX11_pairsOf 2 = .ok (.iconst 0, 1) := by decide +kernel
theorem dX11_pairsOf_3 : decode cX11_pairsOf 3 = .ok (.istore 4, 2) := by decide +kernel
theorem dX11_pairsOf_5 : decode cX11_pairsOf 5 = .ok (.iload 4, 2) := by decide +kernel
theorem dX11_pairsOf_7 : decode cX11_pairsOf 7 = .ok (.aload_n 0, 1) := by decide +kernel
theorem dX11_pairsOf_8 : decode cX11_pairsOf 8 = .ok (.getfield 71, 3) := by decide +kernel
theorem dX11_pairsOf_11 : decode cX11_pairsOf 11 = .ok (.iconst 0, 1) := by decide +kernel
theorem dX11_pairsOf_12 : decode cX11_pairsOf 12 = .ok (.iaload, 1) := by decide +kernel
theorem dX11_pairsOf_13 : decode cX11_pairsOf 13 = .ok (.if_icmp .ge 37, 3) := by decide +kernel
theorem dX11_pairsOf_16 : decode cX11_pairsOf 16 = .ok (.iload_n 3, 1) := by decide +kernel
theorem dX11_pairsOf_17 : decode cX11_pairsOf 17 = .ok (.aload_n 0, 1) := by decide +kernel
theorem dX11_pairsOf_18 : decode cX11_pairsOf 18 = .ok (.iload 4, 2) := by decide +kernel
theorem dX11_pairsOf_20 : decode cX11_pairsOf 20 = .ok (.iload_n 1, 1) := by decide +kernel
theorem dX11_pairsOf_21 : decode cX11_pairsOf 21 = .ok (.invokevirtual 309, 3) := by decide +kernel
theorem dX11_pairsOf_24 : decode cX11_pairsOf 24 = .ok (.ifCond .lt 17, 3) := by decide +kernel
theorem dX11_pairsOf_27 : decode cX11_pairsOf 27 = .ok (.aload_n 0, 1) := by decide +kernel
theorem dX11_pairsOf_28 : decode cX11_pairsOf 28 = .ok (.iload 4, 2) := by decide +kernel
theorem dX11_pairsOf_30 : decode cX11_pairsOf 30 = .ok (.iload_n 2, 1) := by decide +kernel
theorem dX11_pairsOf_31 : decode cX11_pairsOf 31 = .ok (.invokevirtual 309, 3) := by decide +kernel
theorem dX11_pairsOf_34 : decode cX11_pairsOf 34 = .ok (.ifCond .lt 7, 3) := by decide +kernel
theorem dX11_pairsOf_37 : decode cX11_pairsOf 37 = .ok (.iconst 1, 1) := by decide +kernel
theorem dX11_pairsOf_38 : decode cX11_pairsOf 38 = .ok (.goto 4, 3) := by decide +kernel
theorem dX11_pairsOf_41 : decode cX11_pairsOf 41 = .ok (.iconst 0, 1) := by decide +kernel
theorem dX11_pairsOf_42 : decode cX11_pairsOf 42 = .ok (.iadd, 1) := by decide +kernel
theorem dX11_pairsOf_43 : decode cX11_pairsOf 43 = .ok (.istore_n 3, 1) := by decide +kernel
theorem dX11_pairsOf_44 : decode cX11_pairsOf 44 = .ok (.iinc 4 1, 3) := by decide +kernel
theorem dX11_pairsOf_47 : decode cX11_pairsOf 47 = .ok (.goto (-42), 3) := by decide +kernel
theorem dX11_pairsOf_50 : decode cX11_pairsOf 50 = .ok (.iload_n 3, 1) := by decide +kernel
theorem dX11_pairsOf_51 : decode cX11_pairsOf 51 = .ok (.ireturn, 1) := by decide +kernel
theorem dX11_pairs_0 : decode cX11_pairs 0 = .ok (.aload_n 0, 1) := by decide +kernel
theorem dX11_pairs_1 : decode cX11_pairs 1 = .ok (.iconst 0, 1) := by decide +kernel
theorem dX11_pairs_2 : decode cX11_pairs 2 = .ok (.putfield 152, 3) := by decide +kernel
theorem dX11_pairs_5 : decode cX11_pairs 5 = .ok (.aload_n 0, 1) := by decide +kernel
theorem dX11_pairs_6 : decode cX11_pairs 6 = .ok (.iload_n 1, 1) := by decide +kernel
theorem dX11_pairs_7 : decode cX11_pairs 7 = .ok (.invokevirtual 385, 3) := by decide +kernel
theorem dX11_pairs_10 : decode cX11_pairs 10 = .ok (.ifCond .eq 25, 3) := by decide +kernel
theorem dX11_pairs_13 : decode cX11_pairs 13 = .ok (.aload_n 0, 1) := by decide +kernel
theorem dX11_pairs_14 : decode cX11_pairs 14 = .ok (.iload_n 2, 1) := by decide +kernel
theorem dX11_pairs_15 : decode cX11_pairs 15 = .ok (.invokevirtual 385, 3) := by decide +kernel
theorem dX11_pairs_18 : decode cX11_pairs 18 = .ok (.ifCond .eq 17, 3) := by decide +kernel
theorem dX11_pairs_21 : decode cX11_pairs 21 = .ok (.iload_n 1, 1) := by decide +kernel
theorem dX11_pairs_22 : decode cX11_pairs 22 = .ok (.iload_n 2, 1) := by decide +kernel
theorem dX11_pairs_23 : decode cX11_pairs 23 = .ok (.if_icmp .eq 12, 3) := by decide +kernel
theorem dX11_pairs_26 : decode cX11_pairs 26 = .ok (.aload_n 0, 1) := by decide +kernel
theorem dX11_pairs_27 : decode cX11_pairs 27 = .ok (.iload_n 1, 1) := by decide +kernel
theorem dX11_pairs_28 : decode cX11_pairs 28 = .ok (.iload_n 2, 1) := by decide +kernel
theorem dX11_pairs_29 : decode cX11_pairs 29 = .ok (.invokevirtual 431, 3) := by decide +kernel
theorem dX11_pairs_32 : decode cX11_pairs 32 = .ok (.goto 4, 3) := by decide +kernel
theorem dX11_pairs_35 : decode cX11_pairs 35 = .ok (.iconst (-1), 1) := by decide +kernel
theorem dX11_pairs_36 : decode cX11_pairs 36 = .ok (.ireturn, 1) := by decide +kernel
theorem dX11_even_0 : decode cX11_even 0 = .ok (.aload_n 0, 1) := by decide +kernel
theorem dX11_even_1 : decode cX11_even 1 = .ok (.iconst 0, 1) := by decide +kernel
theorem dX11_even_2 : decode cX11_even 2 = .ok (.putfield 152, 3) := by decide +kernel
theorem dX11_even_5 : decode cX11_even 5 = .ok (.aload_n 0, 1) := by decide +kernel
theorem dX11_even_6 : decode cX11_even 6 = .ok (.getfield 13, 3) := by decide +kernel
theorem dX11_even_9 : decode cX11_even 9 = .ok (.iconst 0, 1) := by decide +kernel
theorem dX11_even_10 : decode cX11_even 10 = .ok (.iaload, 1) := by decide +kernel
theorem dX11_even_11 : decode cX11_even 11 = .ok (.iconst 2, 1) := by decide +kernel
theorem dX11_even_12 : decode cX11_even 12 = .ok (.if_icmp .ge 5, 3) := by decide +kernel
theorem dX11_even_15 : decode cX11_even 15 = .ok (.iconst (-1), 1) := by decide +kernel
theorem dX11_even_16 : decode cX11_even 16 = .ok (.ireturn, 1) := by decide +kernel
theorem dX11_even_17 : decode cX11_even 17 = .ok (.aload_n 0, 1) := by decide +kernel
theorem dX11_even_18 : decode cX11_even 18 = .ok (.iconst 0, 1) := by decide +kernel
theorem dX11_even_19 : decode cX11_even 19 = .ok (.iconst 1, 1) := by decide +kernel
theorem dX11_even_20 : decode cX11_even 20 = .ok (.invokevirtual 431, 3) := by decide +kernel
theorem dX11_even_23 : decode cX11_even 23 = .ok (.istore_n 1, 1) := by decide +kernel
theorem dX11_even_24 : decode cX11_even 24 = .ok (.iconst 0, 1) := by decide +kernel
theorem dX11_even_25 : decode cX11_even 25 = .ok (.istore_n 2, 1) := by decide +kernel
theorem dX11_even_26 : decode cX11_even 26 = .ok (.iload_n 2, 1) := by decide +kernel
theorem dX11_even_27 : decode cX11_even 27 = .ok (.aload_n 0, 1) := by decide +kernel
theorem dX11_even_28 : decode cX11_even 28 = .ok (.getfield 13, 3) := by decide +kernel
theorem dX11_even_31 : decode cX11_even 31 = .ok (.iconst 0, 1) := by decide +kernel
theorem dX11_even_32 : decode cX11_even 32 = .ok (.iaload, 1) := by decide +kernel
theorem dX11_even_33 : decode cX11_even 33 = .ok (.if_icmp .ge 34, 3) := by decide +kernel
theorem dX11_even_36 : decode cX11_even 36 = .ok (.iconst 0, 1) := by decide +kernel
theorem dX11_even_37 : decode cX11_even 37 = .ok (.istore_n 3, 1) := by decide +kernel
theorem dX11_even_38 : decode cX11_even 38 = .ok (.iload_n 3, 1) := by decide +kernel
theorem dX11_even_39 : decode cX11_even 39 = .ok (.iload_n 2, 1) := by decide +kernel
theorem dX11_even_40 : decode cX11_even 40 = .ok (.if_icmp .ge 21, 3) := by decide +kernel
theorem dX11_even_43 : decode cX11_even 43 = .ok (.aload_n 0, 1) := by decide +kernel
theorem dX11_even_44 : decode cX11_even 44 = .ok (.iload_n 2, 1) := by decide +kernel
theorem dX11_even_45 : decode cX11_even 45 = .ok (.iload_n 3, 1) := by decide +kernel
theorem dX11_even_46 : decode cX11_even 46 = .ok (.invokevirtual 431, 3) := by decide +kernel
theorem dX11_even_49 : decode cX11_even 49 = .ok (.iload_n 1, 1) := by decide +kernel
theorem dX11_even_50 : decode cX11_even 50 = .ok (.if_icmp .eq 5, 3) := by decide +kernel
theorem dX11_even_53 : decode cX11_even 53 = .ok (.iconst (-1), 1) := by decide +kernel
theorem dX11_even_54 : decode cX11_even 54 = .ok (.ireturn, 1) := by decide +kernel
theorem dX11_even_55 : decode cX11_even 55 = .ok (.iinc 3 1, 3) := by decide +kernel
theorem dX11_even_58 : decode cX11_even 58 = .ok (.goto (-20), 3) := by decide +kernel
theorem dX11_even_61 : decode cX11_even 61 = .ok (.iinc 2 1, 3) := by decide +kernel
theorem dX11_even_64 : decode cX11_even 64 = .ok (.goto (-38), 3) := by decide +kernel
theorem dX11_even_67 : decode cX11_even 67 = .ok (.iload_n 1, 1) := by decide +kernel
theorem dX11_even_68 : decode cX11_even 68 = .ok (.ireturn, 1) := by decide +kernel
theorem dX11_worst_0 : decode cX11_worst 0 = .ok (.aload_n 0, 1) := by decide +kernel
theorem dX11_worst_1 : decode cX11_worst 1 = .ok (.iconst 0, 1) := by decide +kernel
theorem dX11_worst_2 : decode cX11_worst 2 = .ok (.putfield 152, 3) := by decide +kernel
theorem dX11_worst_5 : decode cX11_worst 5 = .ok (.aload_n 0, 1) := by decide +kernel
theorem dX11_worst_6 : decode cX11_worst 6 = .ok (.iload_n 1, 1) := by decide +kernel
theorem dX11_worst_7 : decode cX11_worst 7 = .ok (.invokevirtual 385, 3) := by decide +kernel
theorem dX11_worst_10 : decode cX11_worst 10 = .ok (.ifCond .ne 5, 3) := by decide +kernel
theorem dX11_worst_13 : decode cX11_worst 13 = .ok (.iconst (-1), 1) := by decide +kernel
theorem dX11_worst_14 : decode cX11_worst 14 = .ok (.ireturn, 1) := by decide +kernel
theorem dX11_worst_15 : decode cX11_worst 15 = .ok (.iconst 0, 1) := by decide +kernel
theorem dX11_worst_16 : decode cX11_worst 16 = .ok (.istore_n 2, 1) := by decide +kernel
theorem dX11_worst_17 : decode cX11_worst 17 = .ok (.iconst 0, 1) := by decide +kernel
theorem dX11_worst_18 : decode cX11_worst 18 = .ok (.istore_n 3, 1) := by decide +kernel
theorem dX11_worst_19 : decode cX11_worst 19 = .ok (.iload_n 3, 1) := by decide +kernel
theorem dX11_worst_20 : decode cX11_worst 20 = .ok (.aload_n 0, 1) := by decide +kernel
theorem dX11_worst_21 : decode cX11_worst 21 = .ok (.getfield 13, 3) := by decide +kernel
theorem dX11_worst_24 : decode cX11_worst 24 = .ok (.iconst 0, 1) := by decide +kernel
theorem dX11_worst_25 : decode cX11_worst 25 = .ok (.iaload, 1) := by decide +kernel
theorem dX11_worst_26 : decode cX11_worst 26 = .ok (.if_icmp .ge 25, 3) := by decide +kernel
theorem dX11_worst_29 : decode cX11_worst 29 = .ok (.iload_n 3, 1) := by decide +kernel
theorem dX11_worst_30 : decode cX11_worst 30 = .ok (.iload_n 1, 1) := by decide +kernel
theorem dX11_worst_31 : decode cX11_worst 31 = .ok (.if_icmp .eq 14, 3) := by decide +kernel
theorem dX11_worst_34 : decode cX11_worst 34 = .ok (.iload_n 2, 1) := by decide +kernel
theorem dX11_worst_35 : decode cX11_worst 35 = .ok (.aload_n 0, 1) := by decide +kernel
theorem dX11_worst_36 : decode cX11_worst 36 = .ok (.iload_n 1, 1) := by decide +kernel
theorem dX11_worst_37 : decode cX11_worst 37 = .ok (.iload_n 3, 1) := by decide +kernel
theorem dX11_worst_38 : decode cX11_worst 38 = .ok (.invokevirtual 431, 3) := by decide +kernel
theorem dX11_worst_41 : decode cX11_worst 41 = .ok (.invokestatic 434, 3) := by decide +kernel
theorem dX11_worst_44 : decode cX11_worst 44 = .ok (.istore_n 2, 1) := by decide +kernel
theorem dX11_worst_45 : decode cX11_worst 45 = .ok (.iinc 3 1, 3) := by decide +kernel
theorem dX11_worst_48 : decode cX11_worst 48 = .ok (.goto (-29), 3) := by decide +kernel
theorem dX11_worst_51 : decode cX11_worst 51 = .ok (.iload_n 2, 1) := by decide +kernel
theorem dX11_worst_52 : decode cX11_worst 52 = .ok (.ireturn, 1) := by decide +kernel
theorem dX11_spread_0 : decode cX11_spread 0 = .ok (.aload_n 0, 1) := by decide +kernel
theorem dX11_spread_1 : decode cX11_spread 1 = .ok (.iconst 0, 1) := by decide +kernel
theorem dX11_spread_2 : decode cX11_spread 2 = .ok (.putfield 152, 3) := by decide +kernel
theorem dX11_spread_5 : decode cX11_spread 5 = .ok (.iload_n 1, 1) := by decide +kernel
theorem dX11_spread_6 : decode cX11_spread 6 = .ok (.iconst 0, 1) := by decide +kernel
theorem dX11_spread_7 : decode cX11_spread 7 = .ok (.iconst 2, 1) := by decide +kernel
theorem dX11_spread_8 : decode cX11_spread 8 = .ok (.invokestatic 239, 3) := by decide +kernel
theorem dX11_spread_11 : decode cX11_spread 11 = .ok (.ifCond .eq 12, 3) := by decide +kernel
theorem dX11_spread_14 : decode cX11_spread 14 = .ok (.aload_n 0, 1) := by decide +kernel
theorem dX11_spread_15 : decode cX11_spread 15 = .ok (.getfield 13, 3) := by decide +kernel
theorem dX11_spread_18 : decode cX11_spread 18 = .ok (.iconst 0, 1) := by decide +kernel
theorem dX11_spread_19 : decode cX11_spread 19 = .ok (.iaload, 1) := by decide +kernel
theorem dX11_spread_20 : decode cX11_spread 20 = .ok (.ifCond .ne 5, 3) := by decide +kernel
theorem dX11_spread_23 : decode cX11_spread 23 = .ok (.iconst (-1), 1) := by decide +kernel
theorem dX11_spread_24 : decode cX11_spread 24 = .ok (.ireturn, 1) := by decide +kernel
theorem dX11_spread_25 : decode cX11_spread 25 = .ok (.iconst 0, 1) := by decide +kernel
theorem dX11_spread_26 : decode cX11_spread 26 = .ok (.istore_n 2, 1) := by decide +kernel
theorem dX11_spread_27 : decode cX11_spread 27 = .ok (.sipush 999, 3) := by decide +kernel
theorem dX11_spread_30 : decode cX11_spread 30 = .ok (.istore_n 3, 1) := by decide +kernel
theorem dX11_spread_31 : decode cX11_spread 31 = .ok (.iconst 0, 1) := by decide +kernel
theorem dX11_spread_32 : decode cX11_spread 32 = .ok (.istore 4, 2) := by decide +kernel
theorem dX11_spread_34 : decode cX11_spread 34 = .ok (.iload 4, 2) := by decide +kernel
theorem dX11_spread_36 : decode cX11_spread 36 = .ok (.aload_n 0, 1) := by decide +kernel
theorem dX11_spread_37 : decode cX11_spread 37 = .ok (.getfield 13, 3) := by decide +kernel
theorem dX11_spread_40 : decode cX11_spread 40 = .ok (.iconst 0, 1) := by decide +kernel
theorem dX11_spread_41 : decode cX11_spread 41 = .ok (.iaload, 1) := by decide +kernel
theorem dX11_spread_42 : decode cX11_spread 42 = .ok (.if_icmp .ge 37, 3) := by decide +kernel
theorem dX11_spread_45 : decode cX11_spread 45 = .ok (.iload_n 2, 1) := by decide +kernel
theorem dX11_spread_46 : decode cX11_spread 46 = .ok (.aload_n 0, 1) := by decide +kernel
theorem dX11_spread_47 : decode cX11_spread 47 = .ok (.iload 4, 2) := by decide +kernel
theorem dX11_spread_49 : decode cX11_spread 49 = .ok (.iload_n 1, 1) := by decide +kernel
theorem dX11_spread_50 : decode cX11_spread 50 = .ok (.iconst 1, 1) := by decide +kernel
theorem dX11_spread_51 : decode cX11_spread 51 = .ok (.iadd, 1) := by decide +kernel
theorem dX11_spread_52 : decode cX11_spread 52 = .ok (.invokevirtual 391, 3) := by decide +kernel
theorem dX11_spread_55 : decode cX11_spread 55 = .ok (.invokestatic 434, 3) := by decide +kernel
theorem dX11_spread_58 : decode cX11_spread 58 = .ok (.istore_n 2, 1) := by decide +kernel
theorem dX11_spread_59 : decode cX11_spread 59 = .ok (.iload_n 3, 1) := by decide +kernel
theorem dX11_spread_60 : decode cX11_spread 60 = .ok (.aload_n 0, 1) := by decide +kernel
theorem dX11_spread_61 : decode cX11_spread 61 = .ok (.iload 4, 2) := by decide +kernel
theorem dX11_spread_63 : decode cX11_spread 63 = .ok (.iload_n 1, 1) := by decide +kernel
theorem dX11_spread_64 : decode cX11_spread 64 = .ok (.iconst 1, 1) := by decide +kernel
theorem dX11_spread_65 : decode cX11_spread 65 = .ok (.iadd, 1) := by decide +kernel
theorem dX11_spread_66 : decode cX11_spread 66 = .ok (.invokevirtual 391, 3) := by decide +kernel
theorem dX11_spread_69 : decode cX11_spread 69 = .ok (.invokestatic 439, 3) := by decide +kernel
theorem dX11_spread_72 : decode cX11_spread 72 = .ok (.istore_n 3, 1) := by decide +kernel
theorem dX11_spread_73 : decode cX11_spread 73 = .ok (.iinc 4 1, 3) := by decide +kernel
theorem dX11_spread_76 : decode cX11_spread 76 = .ok (.goto (-42), 3) := by decide +kernel
theorem dX11_spread_79 : decode cX11_spread 79 = .ok (.iload_n 2, 1) := by decide +kernel
theorem dX11_spread_80 : decode cX11_spread 80 = .ok (.iload_n 3, 1) := by decide +kernel
theorem dX11_spread_81 : decode cX11_spread 81 = .ok (.isub, 1) := by decide +kernel
theorem dX11_spread_82 : decode cX11_spread 82 = .ok (.ireturn, 1) := by decide +kernel
theorem dX11_setOf_0 : decode cX11_setOf 0 = .ok (.iconst 0, 1) := by decide +kernel
theorem dX11_setOf_1 : decode cX11_setOf 1 = .ok (.istore_n 2, 1) := by decide +kernel
theorem dX11_setOf_2 : decode cX11_setOf 2 = .ok (.iconst 0, 1) := by decide +kernel
theorem dX11_setOf_3 : decode cX11_setOf 3 = .ok (.istore_n 3, 1) := by decide +kernel
theorem dX11_setOf_4 : decode cX11_setOf 4 = .ok (.iload_n 3, 1) := by decide +kernel
theorem dX11_setOf_5 : decode cX11_setOf 5 = .ok (.aload_n 0, 1) := by decide +kernel
theorem dX11_setOf_6 : decode cX11_setOf 6 = .ok (.getfield 19, 3) := by decide +kernel
theorem dX11_setOf_9 : decode cX11_setOf 9 = .ok (.iload_n 1, 1) := by decide +kernel
theorem dX11_setOf_10 : decode cX11_setOf 10 = .ok (.iaload, 1) := by decide +kernel
theorem dX11_setOf_11 : decode cX11_setOf 11 = .ok (.if_icmp .ge 24, 3) := by decide +kernel
theorem dX11_setOf_14 : decode cX11_setOf 14 = .ok (.iload_n 2, 1) := by decide +kernel
theorem dX11_setOf_15 : decode cX11_setOf 15 = .ok (.iconst 1, 1) := by decide +kernel
theorem dX11_setOf_16 : decode cX11_setOf 16 = .ok (.aload_n 0, 1) := by decide +kernel
theorem dX11_setOf_17 : decode cX11_setOf 17 = .ok (.getfield 22, 3) := by decide +kernel
theorem dX11_setOf_20 : decode cX11_setOf 20 = .ok (.iconst 5, 1) := by decide +kernel
theorem dX11_setOf_21 : decode cX11_setOf 21 = .ok (.iload_n 1, 1) := by decide +kernel
theorem dX11_setOf_22 : decode cX11_setOf 22 = .ok (.imul, 1) := by decide +kernel
theorem dX11_setOf_23 : decode cX11_setOf 23 = .ok (.iload_n 3, 1) := by decide +kernel
theorem dX11_setOf_24 : decode cX11_setOf 24 = .ok (.iadd, 1) := by decide +kernel
theorem dX11_setOf_25 : decode cX11_setOf 25 = .ok (.iaload, 1) := by decide +kernel
theorem dX11_setOf_26 : decode cX11_setOf 26 = .ok (.ishl, 1) := by decide +kernel
theorem dX11_setOf_27 : decode cX11_setOf 27 = .ok (.ior, 1) := by decide +kernel
theorem dX11_setOf_28 : decode cX11_setOf 28 = .ok (.istore_n 2, 1) := by decide +kernel
theorem dX11_setOf_29 : decode cX11_setOf 29 = .ok (.iinc 3 1, 3) := by decide +kernel
theorem dX11_setOf_32 : decode cX11_setOf 32 = .ok (.goto (-28), 3) := by decide +kernel
theorem dX11_setOf_35 : decode cX11_setOf 35 = .ok (.iload_n 2, 1) := by decide +kernel
theorem dX11_setOf_36 : decode cX11_setOf 36 = .ok (.ireturn, 1) := by decide +kernel
theorem dX11_differsBy_0 : decode cX11_differsBy 0 = .ok (.iconst 0, 1) := by decide +kernel
theorem dX11_differsBy_1 : decode cX11_differsBy 1 = .ok (.istore_n 3, 1) := by decide +kernel
theorem dX11_differsBy_2 : decode cX11_differsBy 2 = .ok (.iconst 0, 1) := by decide +kernel
theorem dX11_differsBy_3 : decode cX11_differsBy 3 = .ok (.istore 4, 2) := by decide +kernel
theorem dX11_differsBy_5 : decode cX11_differsBy 5 = .ok (.iload 4, 2) := by decide +kernel
theorem dX11_differsBy_7 : decode cX11_differsBy 7 = .ok (.aload_n 0, 1) := by decide +kernel
theorem dX11_differsBy_8 : decode cX11_differsBy 8 = .ok (.getfield 13, 3) := by decide +kernel
theorem dX11_differsBy_11 : decode cX11_differsBy 11 = .ok (.iconst 0, 1) := by decide +kernel
theorem dX11_differsBy_12 : decode cX11_differsBy 12 = .ok (.iaload, 1) := by decide +kernel
theorem dX11_differsBy_13 : decode cX11_differsBy 13 = .ok (.if_icmp .ge 44, 3) := by decide +kernel
theorem dX11_differsBy_16 : decode cX11_differsBy 16 = .ok (.iload_n 3, 1) := by decide +kernel
theorem dX11_differsBy_17 : decode cX11_differsBy 17 = .ok (.iload_n 1, 1) := by decide +kernel
theorem dX11_differsBy_18 : decode cX11_differsBy 18 = .ok (.iload 4, 2) := by decide +kernel
theorem dX11_differsBy_20 : decode cX11_differsBy 20 = .ok (.invokestatic 273, 3) := by decide +kernel
theorem dX11_differsBy_23 : decode cX11_differsBy 23 = .ok (.ifCond .eq 25, 3) := by decide +kernel
theorem dX11_differsBy_26 : decode cX11_differsBy 26 = .ok (.iload_n 1, 1) := by decide +kernel
theorem dX11_differsBy_27 : decode cX11_differsBy 27 = .ok (.iload 4, 2) := by decide +kernel
theorem dX11_differsBy_29 : decode cX11_differsBy 29 = .ok (.iload_n 2, 1) := by decide +kernel
theorem dX11_differsBy_30 : decode cX11_differsBy 30 = .ok (.iadd, 1) := by decide +kernel
theorem dX11_differsBy_31 : decode cX11_differsBy 31 = .ok (.aload_n 0, 1) := by decide +kernel
theorem dX11_differsBy_32 : decode cX11_differsBy 32 = .ok (.getfield 13, 3) := by decide +kernel
theorem dX11_differsBy_35 : decode cX11_differsBy 35 = .ok (.iconst 0, 1) := by decide +kernel
theorem dX11_differsBy_36 : decode cX11_differsBy 36 = .ok (.iaload, 1) := by decide +kernel
theorem dX11_differsBy_37 : decode cX11_differsBy 37 = .ok (.irem, 1) := by decide +kernel
theorem dX11_differsBy_38 : decode cX11_differsBy 38 = .ok (.invokestatic 273, 3) := by decide +kernel
theorem dX11_differsBy_41 : decode cX11_differsBy 41 = .ok (.ifCond .eq 7, 3) := by decide +kernel
theorem dX11_differsBy_44 : decode cX11_differsBy 44 = .ok (.iconst 1, 1) := by decide +kernel
theorem dX11_differsBy_45 : decode cX11_differsBy 45 = .ok (.goto 4, 3) := by decide +kernel
theorem dX11_differsBy_48 : decode cX11_differsBy 48 = .ok (.iconst 0, 1) := by decide +kernel
theorem dX11_differsBy_49 : decode cX11_differsBy 49 = .ok (.iadd, 1) := by decide +kernel
theorem dX11_differsBy_50 : decode cX11_differsBy 50 = .ok (.istore_n 3, 1) := by decide +kernel
theorem dX11_differsBy_51 : decode cX11_differsBy 51 = .ok (.iinc 4 1, 3) := by decide +kernel
theorem dX11_differsBy_54 : decode cX11_differsBy 54 = .ok (.goto (-49), 3) := by decide +kernel
theorem dX11_differsBy_57 : decode cX11_differsBy 57 = .ok (.iload_n 3, 1) := by decide +kernel
theorem dX11_differsBy_58 : decode cX11_differsBy 58 = .ok (.ireturn, 1) := by decide +kernel
theorem dX11_differs_0 : decode cX11_differs 0 = .ok (.aload_n 0, 1) := by decide +kernel
theorem dX11_differs_1 : decode cX11_differs 1 = .ok (.iconst 0, 1) := by decide +kernel
theorem dX11_differs_2 : decode cX11_differs 2 = .ok (.putfield 152, 3) := by decide +kernel
theorem dX11_differs_5 : decode cX11_differs 5 = .ok (.iload_n 1, 1) := by decide +kernel
theorem dX11_differs_6 : decode cX11_differs 6 = .ok (.iconst 0, 1) := by decide +kernel
theorem dX11_differs_7 : decode cX11_differs 7 = .ok (.aload_n 0, 1) := by decide +kernel
theorem dX11_differs_8 : decode cX11_differs 8 = .ok (.getfield 13, 3) := by decide +kernel
theorem dX11_differs_11 : decode cX11_differs 11 = .ok (.iconst 1, 1) := by decide +kernel
theorem dX11_differs_12 : decode cX11_differs 12 = .ok (.iaload, 1) := by decide +kernel
theorem dX11_differs_13 : decode cX11_differs 13 = .ok (.iconst 1, 1) := by decide +kernel
theorem dX11_differs_14 : decode cX11_differs 14 = .ok (.isub, 1) := by decide +kernel
theorem dX11_differs_15 : decode cX11_differs 15 = .ok (.invokestatic 239, 3) := by decide +kernel
theorem dX11_differs_18 : decode cX11_differs 18 = .ok (.ifCond .eq 32, 3) := by decide +kernel
theorem dX11_differs_21 : decode cX11_differs 21 = .ok (.iload_n 2, 1) := by decide +kernel
theorem dX11_differs_22 : decode cX11_differs 22 = .ok (.iconst 1, 1) := by decide +kernel
theorem dX11_differs_23 : decode cX11_differs 23 = .ok (.aload_n 0, 1) := by decide +kernel
theorem dX11_differs_24 : decode cX11_differs 24 = .ok (.getfield 13, 3) := by decide +kernel
theorem dX11_differs_27 : decode cX11_differs 27 = .ok (.iconst 0, 1) := by decide +kernel
theorem dX11_differs_28 : decode cX11_differs 28 = .ok (.iaload, 1) := by decide +kernel
theorem dX11_differs_29 : decode cX11_differs 29 = .ok (.iconst 1, 1) := by decide +kernel
theorem dX11_differs_30 : decode cX11_differs 30 = .ok (.isub, 1) := by decide +kernel
theorem dX11_differs_31 : decode cX11_differs 31 = .ok (.invokestatic 239, 3) := by decide +kernel
theorem dX11_differs_34 : decode cX11_differs 34 = .ok (.ifCond .eq 16, 3) := by decide +kernel
theorem dX11_differs_37 : decode cX11_differs 37 = .ok (.aload_n 0, 1) := by decide +kernel
theorem dX11_differs_38 : decode cX11_differs 38 = .ok (.aload_n 0, 1) := by decide +kernel
theorem dX11_differs_39 : decode cX11_differs 39 = .ok (.iload_n 1, 1) := by decide +kernel
theorem dX11_differs_40 : decode cX11_differs 40 = .ok (.invokevirtual 442, 3) := by decide +kernel
theorem dX11_differs_43 : decode cX11_differs 43 = .ok (.iload_n 2, 1) := by decide +kernel
theorem dX11_differs_44 : decode cX11_differs 44 = .ok (.invokevirtual 445, 3) := by decide +kernel
theorem dX11_differs_47 : decode cX11_differs 47 = .ok (.goto 4, 3) := by decide +kernel
theorem dX11_differs_50 : decode cX11_differs 50 = .ok (.iconst (-1), 1) := by decide +kernel
theorem dX11_differs_51 : decode cX11_differs 51 = .ok (.ireturn, 1) := by decide +kernel
theorem dX11_familyBy_0 : decode cX11_familyBy 0 = .ok (.iconst 0, 1) := by decide +kernel
theorem dX11_familyBy_1 : decode cX11_familyBy 1 = .ok (.istore_n 2, 1) := by decide +kernel
theorem dX11_familyBy_2 : decode cX11_familyBy 2 = .ok (.iconst 0, 1) := by decide +kernel
theorem dX11_familyBy_3 : decode cX11_familyBy 3 = .ok (.istore_n 3, 1) := by decide +kernel
theorem dX11_familyBy_4 : decode cX11_familyBy 4 = .ok (.iload_n 3, 1) := by decide +kernel
theorem dX11_familyBy_5 : decode cX11_familyBy 5 = .ok (.aload_n 0, 1) := by decide +kernel
theorem dX11_familyBy_6 : decode cX11_familyBy 6 = .ok (.getfield 13, 3) := by decide +kernel
theorem dX11_familyBy_9 : decode cX11_familyBy 9 = .ok (.iconst 1, 1) := by decide +kernel
theorem dX11_familyBy_10 : decode cX11_familyBy 10 = .ok (.iaload, 1) := by decide +kernel
theorem dX11_familyBy_11 : decode cX11_familyBy 11 = .ok (.if_icmp .ge 36, 3) := by decide +kernel
theorem dX11_familyBy_14 : decode cX11_familyBy 14 = .ok (.iload_n 2, 1) := by decide +kernel
theorem dX11_familyBy_15 : decode cX11_familyBy 15 = .ok (.aload_n 0, 1) := by decide +kernel
theorem dX11_familyBy_16 : decode cX11_familyBy 16 = .ok (.getfield 16, 3) := by decide +kernel
theorem dX11_familyBy_19 : decode cX11_familyBy 19 = .ok (.iload_n 3, 1) := by decide +kernel
theorem dX11_familyBy_20 : decode cX11_familyBy 20 = .ok (.iaload, 1) := by decide +kernel
theorem dX11_familyBy_21 : decode cX11_familyBy 21 = .ok (.iconst 1, 1) := by decide +kernel
theorem dX11_familyBy_22 : decode cX11_familyBy 22 = .ok (.if_icmp .ne 16, 3) := by decide +kernel
theorem dX11_familyBy_25 : decode cX11_familyBy 25 = .ok (.aload_n 0, 1) := by decide +kernel
theorem dX11_familyBy_26 : decode cX11_familyBy 26 = .ok (.aload_n 0, 1) := by decide +kernel
theorem dX11_familyBy_27 : decode cX11_familyBy 27 = .ok (.iload_n 3, 1) := by decide +kernel
theorem dX11_familyBy_28 : decode cX11_familyBy 28 = .ok (.invokevirtual 442, 3) := by decide +kernel
theorem dX11_familyBy_31 : decode cX11_familyBy 31 = .ok (.iload_n 1, 1) := by decide +kernel
theorem dX11_familyBy_32 : decode cX11_familyBy 32 = .ok (.invokevirtual 445, 3) := by decide +kernel
theorem dX11_familyBy_35 : decode cX11_familyBy 35 = .ok (.goto 4, 3) := by decide +kernel
theorem dX11_familyBy_38 : decode cX11_familyBy 38 = .ok (.iconst 0, 1) := by decide +kernel
theorem dX11_familyBy_39 : decode cX11_familyBy 39 = .ok (.iadd, 1) := by decide +kernel
theorem dX11_familyBy_40 : decode cX11_familyBy 40 = .ok (.istore_n 2, 1) := by decide +kernel
theorem dX11_familyBy_41 : decode cX11_familyBy 41 = .ok (.iinc 3 1, 3) := by decide +kernel
theorem dX11_familyBy_44 : decode cX11_familyBy 44 = .ok (.goto (-40), 3) := by decide +kernel
theorem dX11_familyBy_47 : decode cX11_familyBy 47 = .ok (.iload_n 2, 1) := by decide +kernel
theorem dX11_familyBy_48 : decode cX11_familyBy 48 = .ok (.ireturn, 1) := by decide +kernel
theorem dX11_family_0 : decode cX11_family 0 = .ok (.aload_n 0, 1) := by decide +kernel
theorem dX11_family_1 : decode cX11_family 1 = .ok (.iconst 0, 1) := by decide +kernel
theorem dX11_family_2 : decode cX11_family 2 = .ok (.putfield 152, 3) := by decide +kernel
theorem dX11_family_5 : decode cX11_family 5 = .ok (.iconst 0, 1) := by decide +kernel
theorem dX11_family_6 : decode cX11_family 6 = .ok (.istore_n 1, 1) := by decide +kernel
theorem dX11_family_7 : decode cX11_family 7 = .ok (.iconst 0, 1) := by decide +kernel
theorem dX11_family_8 : decode cX11_family 8 = .ok (.istore_n 2, 1) := by decide +kernel
theorem dX11_family_9 : decode cX11_family 9 = .ok (.iload_n 2, 1) := by decide +kernel
theorem dX11_family_10 : decode cX11_family 10 = .ok (.aload_n 0, 1) := by decide +kernel
theorem dX11_family_11 : decode cX11_family 11 = .ok (.getfield 13, 3) := by decide +kernel
theorem dX11_family_14 : decode cX11_family 14 = .ok (.iconst 1, 1) := by decide +kernel
theorem dX11_family_15 : decode cX11_family 15 = .ok (.iaload, 1) := by decide +kernel
theorem dX11_family_16 : decode cX11_family 16 = .ok (.if_icmp .ge 27, 3) := by decide +kernel
theorem dX11_family_19 : decode cX11_family 19 = .ok (.iload_n 1, 1) := by decide +kernel
theorem dX11_family_20 : decode cX11_family 20 = .ok (.aload_n 0, 1) := by decide +kernel
theorem dX11_family_21 : decode cX11_family 21 = .ok (.getfield 16, 3) := by decide +kernel
theorem dX11_family_24 : decode cX11_family 24 = .ok (.iload_n 2, 1) := by decide +kernel
theorem dX11_family_25 : decode cX11_family 25 = .ok (.iaload, 1) := by decide +kernel
theorem dX11_family_26 : decode cX11_family 26 = .ok (.iconst 1, 1) := by decide +kernel
theorem dX11_family_27 : decode cX11_family 27 = .ok (.if_icmp .ne 7, 3) := by decide +kernel
theorem dX11_family_30 : decode cX11_family 30 = .ok (.iconst 1, 1) := by decide +kernel
theorem dX11_family_31 : decode cX11_family 31 = .ok (.goto 4, 3) := by decide +kernel
theorem dX11_family_34 : decode cX11_family 34 = .ok (.iconst 0, 1) := by decide +kernel
theorem dX11_family_35 : decode cX11_family 35 = .ok (.ior, 1) := by decide +kernel
theorem dX11_family_36 : decode cX11_family 36 = .ok (.istore_n 1, 1) := by decide +kernel
theorem dX11_family_37 : decode cX11_family 37 = .ok (.iinc 2 1, 3) := by decide +kernel
theorem dX11_family_40 : decode cX11_family 40 = .ok (.goto (-31), 3) := by decide +kernel
theorem dX11_family_43 : decode cX11_family 43 = .ok (.iload_n 1, 1) := by decide +kernel
theorem dX11_family_44 : decode cX11_family 44 = .ok (.ifCond .ne 5, 3) := by decide +kernel
theorem dX11_family_47 : decode cX11_family 47 = .ok (.iconst (-1), 1) := by decide +kernel
theorem dX11_family_48 : decode cX11_family 48 = .ok (.ireturn, 1) := by decide +kernel
theorem dX11_family_49 : decode cX11_family 49 = .ok (.iconst 2, 1) := by decide +kernel
theorem dX11_family_50 : decode cX11_family 50 = .ok (.istore_n 2, 1) := by decide +kernel
theorem dX11_family_51 : decode cX11_family 51 = .ok (.iload_n 2, 1) := by decide +kernel
theorem dX11_family_52 : decode cX11_family 52 = .ok (.aload_n 0, 1) := by decide +kernel
theorem dX11_family_53 : decode cX11_family 53 = .ok (.getfield 13, 3) := by decide +kernel
theorem dX11_family_56 : decode cX11_family 56 = .ok (.iconst 0, 1) := by decide +kernel
theorem dX11_family_57 : decode cX11_family 57 = .ok (.iaload, 1) := by decide +kernel
theorem dX11_family_58 : decode cX11_family 58 = .ok (.if_icmp .ge 24, 3) := by decide +kernel
theorem dX11_family_61 : decode cX11_family 61 = .ok (.aload_n 0, 1) := by decide +kernel
theorem dX11_family_62 : decode cX11_family 62 = .ok (.iload_n 2, 1) := by decide +kernel
theorem dX11_family_63 : decode cX11_family 63 = .ok (.invokevirtual 448, 3) := by decide +kernel
theorem dX11_family_66 : decode cX11_family 66 = .ok (.aload_n 0, 1) := by decide +kernel
theorem dX11_family_67 : decode cX11_family 67 = .ok (.iconst 1, 1) := by decide +kernel
theorem dX11_family_68 : decode cX11_family 68 = .ok (.invokevirtual 448, 3) := by decide +kernel
theorem dX11_family_71 : decode cX11_family 71 = .ok (.if_icmp .eq 5, 3) := by decide +kernel
theorem dX11_family_74 : decode cX11_family 74 = .ok (.iconst (-1), 1) := by decide +kernel
theorem dX11_family_75 : decode cX11_family 75 = .ok (.ireturn, 1) := by decide +kernel
theorem dX11_family_76 : decode cX11_family 76 = .ok (.iinc 2 1, 3) := by decide +kernel
theorem dX11_family_79 : decode cX11_family 79 = .ok (.goto (-28), 3) := by decide +kernel
theorem dX11_family_82 : decode cX11_family 82 = .ok (.aload_n 0, 1) := by decide +kernel
theorem dX11_family_83 : decode cX11_family 83 = .ok (.iconst 1, 1) := by decide +kernel
theorem dX11_family_84 : decode cX11_family 84 = .ok (.invokevirtual 448, 3) := by decide +kernel
theorem dX11_family_87 : decode cX11_family 87 = .ok (.ireturn, 1) := by decide +kernel
theorem dX11_isAlike_0 : decode cX11_isAlike 0 = .ok (.iconst 2, 1) := by decide +kernel
theorem dX11_isAlike_1 : decode cX11_isAlike 1 = .ok (.istore_n 2, 1) := by decide +kernel
theorem dX11_isAlike_2 : decode cX11_isAlike 2 = .ok (.iload_n 2, 1) := by decide +kernel
theorem dX11_isAlike_3 : decode cX11_isAlike 3 = .ok (.aload_n 0, 1) := by decide +kernel
theorem dX11_isAlike_4 : decode cX11_isAlike 4 = .ok (.getfield 13, 3) := by decide +kernel
theorem dX11_isAlike_7 : decode cX11_isAlike 7 = .ok (.iconst 0, 1) := by decide +kernel
theorem dX11_isAlike_8 : decode cX11_isAlike 8 = .ok (.iaload, 1) := by decide +kernel
theorem dX11_isAlike_9 : decode cX11_isAlike 9 = .ok (.if_icmp .ge 26, 3) := by decide +kernel
theorem dX11_isAlike_12 : decode cX11_isAlike 12 = .ok (.aload_n 0, 1) := by decide +kernel
theorem dX11_isAlike_13 : decode cX11_isAlike 13 = .ok (.iload_n 1, 1) := by decide +kernel
theorem dX11_isAlike_14 : decode cX11_isAlike 14 = .ok (.iload_n 2, 1) := by decide +kernel
theorem dX11_isAlike_15 : decode cX11_isAlike 15 = .ok (.invokevirtual 445, 3) := by decide +kernel
theorem dX11_isAlike_18 : decode cX11_isAlike 18 = .ok (.aload_n 0, 1) := by decide +kernel
theorem dX11_isAlike_19 : decode cX11_isAlike 19 = .ok (.iload_n 1, 1) := by decide +kernel
theorem dX11_isAlike_20 : decode cX11_isAlike 20 = .ok (.iconst 1, 1) := by decide +kernel
theorem dX11_isAlike_21 : decode cX11_isAlike 21 = .ok (.invokevirtual 445, 3) := by decide +kernel
theorem dX11_isAlike_24 : decode cX11_isAlike 24 = .ok (.if_icmp .eq 5, 3) := by decide +kernel
theorem dX11_isAlike_27 : decode cX11_isAlike 27 = .ok (.iconst 0, 1) := by decide +kernel
theorem dX11_isAlike_28 : decode cX11_isAlike 28 = .ok (.ireturn, 1) := by decide +kernel
theorem dX11_isAlike_29 : decode cX11_isAlike 29 = .ok (.iinc 2 1, 3) := by decide +kernel
theorem dX11_isAlike_32 : decode cX11_isAlike 32 = .ok (.goto (-30), 3) := by decide +kernel
theorem dX11_isAlike_35 : decode cX11_isAlike 35 = .ok (.iconst 1, 1) := by decide +kernel
theorem dX11_isAlike_36 : decode cX11_isAlike 36 = .ok (.ireturn, 1) := by decide +kernel
theorem dX11_seeks_0 : decode cX11_seeks 0 = .ok (.iload_n 3, 1) := by decide +kernel
theorem dX11_seeks_1 : decode cX11_seeks 1 = .ok (.ifCond .ne 17, 3) := by decide +kernel
theorem dX11_seeks_4 : decode cX11_seeks 4 = .ok (.aload_n 0, 1) := by decide +kernel
theorem dX11_seeks_5 : decode cX11_seeks 5 = .ok (.iload_n 1, 1) := by decide +kernel
theorem dX11_seeks_6 : decode cX11_seeks 6 = .ok (.invokevirtual 451, 3) := by decide +kernel
theorem dX11_seeks_9 : decode cX11_seeks 9 = .ok (.ifCond .eq 7, 3) := by decide +kernel
theorem dX11_seeks_12 : decode cX11_seeks 12 = .ok (.iload_n 1, 1) := by decide +kernel
theorem dX11_seeks_13 : decode cX11_seeks 13 = .ok (.goto 4, 3) := by decide +kernel
theorem dX11_seeks_16 : decode cX11_seeks 16 = .ok (.iconst 0, 1) := by decide +kernel
theorem dX11_seeks_17 : decode cX11_seeks 17 = .ok (.ireturn, 1) := by decide +kernel
theorem dX11_seeks_18 : decode cX11_seeks 18 = .ok (.iload_n 2, 1) := by decide +kernel
theorem dX11_seeks_19 : decode cX11_seeks 19 = .ok (.istore 4, 2) := by decide +kernel
theorem dX11_seeks_21 : decode cX11_seeks 21 = .ok (.iload 4, 2) := by decide +kernel
theorem dX11_seeks_23 : decode cX11_seeks 23 = .ok (.aload_n 0, 1) := by decide +kernel
theorem dX11_seeks_24 : decode cX11_seeks 24 = .ok (.getfield 13, 3) := by decide +kernel
theorem dX11_seeks_27 : decode cX11_seeks 27 = .ok (.iconst 0, 1) := by decide +kernel
theorem dX11_seeks_28 : decode cX11_seeks 28 = .ok (.iaload, 1) := by decide +kernel
theorem dX11_seeks_29 : decode cX11_seeks 29 = .ok (.if_icmp .ge 36, 3) := by decide +kernel
theorem dX11_seeks_32 : decode cX11_seeks 32 = .ok (.aload_n 0, 1) := by decide +kernel
theorem dX11_seeks_33 : decode cX11_seeks 33 = .ok (.iload_n 1, 1) := by decide +kernel
theorem dX11_seeks_34 : decode cX11_seeks 34 = .ok (.iconst 1, 1) := by decide +kernel
theorem dX11_seeks_35 : decode cX11_seeks 35 = .ok (.iload 4, 2) := by decide +kernel
theorem dX11_seeks_37 : decode cX11_seeks 37 = .ok (.ishl, 1) := by decide +kernel
theorem dX11_seeks_38 : decode cX11_seeks 38 = .ok (.ior, 1) := by decide +kernel
theorem dX11_seeks_39 : decode cX11_seeks 39 = .ok (.iload 4, 2) := by decide +kernel
theorem dX11_seeks_41 : decode cX11_seeks 41 = .ok (.iconst 1, 1) := by decide +kernel
theorem dX11_seeks_42 : decode cX11_seeks 42 = .ok (.iadd, 1) := by decide +kernel
theorem dX11_seeks_43 : decode cX11_seeks 43 = .ok (.iload_n 3, 1) := by decide +kernel
theorem dX11_seeks_44 : decode cX11_seeks 44 = .ok (.iconst 1, 1) := by decide +kernel
theorem dX11_seeks_45 : decode cX11_seeks 45 = .ok (.isub, 1) := by decide +kernel
theorem dX11_seeks_46 : decode cX11_seeks 46 = .ok (.invokevirtual 454, 3) := by decide +kernel
theorem dX11_seeks_49 : decode cX11_seeks 49 = .ok (.istore 5, 2) := by decide +kernel
theorem dX11_seeks_51 : decode cX11_seeks 51 = .ok (.iload 5, 2) := by decide +kernel
theorem dX11_seeks_53 : decode cX11_seeks 53 = .ok (.ifCond .eq 6, 3) := by decide +kernel
theorem dX11_seeks_56 : decode cX11_seeks 56 = .ok (.iload 5, 2) := by decide +kernel
theorem dX11_seeks_58 : decode cX11_seeks 58 = .ok (.ireturn, 1) := by decide +kernel
theorem dX11_seeks_59 : decode cX11_seeks 59 = .ok (.iinc 4 1, 3) := by decide +kernel
theorem dX11_seeks_62 : decode cX11_seeks 62 = .ok (.goto (-41), 3) := by decide +kernel
theorem dX11_seeks_65 : decode cX11_seeks 65 = .ok (.iconst 0, 1) := by decide +kernel
theorem dX11_seeks_66 : decode cX11_seeks 66 = .ok (.ireturn, 1) := by decide +kernel
theorem dX11_seek_0 : decode cX11_seek 0 = .ok (.aload_n 0, 1) := by decide +kernel
theorem dX11_seek_1 : decode cX11_seek 1 = .ok (.iconst 0, 1) := by decide +kernel
theorem dX11_seek_2 : decode cX11_seek 2 = .ok (.putfield 152, 3) := by decide +kernel
theorem dX11_seek_5 : decode cX11_seek 5 = .ok (.iload_n 1, 1) := by decide +kernel
theorem dX11_seek_6 : decode cX11_seek 6 = .ok (.iconst 2, 1) := by decide +kernel
theorem dX11_seek_7 : decode cX11_seek 7 = .ok (.iconst 5, 1) := by decide +kernel
theorem dX11_seek_8 : decode cX11_seek 8 = .ok (.invokestatic 239, 3) := by decide +kernel
theorem dX11_seek_11 : decode cX11_seek 11 = .ok (.ifCond .eq 12, 3) := by decide +kernel
theorem dX11_seek_14 : decode cX11_seek 14 = .ok (.aload_n 0, 1) := by decide +kernel
theorem dX11_seek_15 : decode cX11_seek 15 = .ok (.getfield 13, 3) := by decide +kernel
theorem dX11_seek_18 : decode cX11_seek 18 = .ok (.iconst 0, 1) := by decide +kernel
theorem dX11_seek_19 : decode cX11_seek 19 = .ok (.iaload, 1) := by decide +kernel
theorem dX11_seek_20 : decode cX11_seek 20 = .ok (.ifCond .ne 5, 3) := by decide +kernel
theorem dX11_seek_23 : decode cX11_seek 23 = .ok (.iconst (-1), 1) := by decide +kernel
theorem dX11_seek_24 : decode cX11_seek 24 = .ok (.ireturn, 1) := by decide +kernel
theorem dX11_seek_25 : decode cX11_seek 25 = .ok (.aload_n 0, 1) := by decide +kernel
theorem dX11_seek_26 : decode cX11_seek 26 = .ok (.iconst 1, 1) := by decide +kernel
theorem dX11_seek_27 : decode cX11_seek 27 = .ok (.iconst 1, 1) := by decide +kernel
theorem dX11_seek_28 : decode cX11_seek 28 = .ok (.iload_n 1, 1) := by decide +kernel
theorem dX11_seek_29 : decode cX11_seek 29 = .ok (.iconst 1, 1) := by decide +kernel
theorem dX11_seek_30 : decode cX11_seek 30 = .ok (.isub, 1) := by decide +kernel
theorem dX11_seek_31 : decode cX11_seek 31 = .ok (.invokevirtual 454, 3) := by decide +kernel
theorem dX11_seek_34 : decode cX11_seek 34 = .ok (.istore_n 2, 1) := by decide +kernel
theorem dX11_seek_35 : decode cX11_seek 35 = .ok (.iload_n 2, 1) := by decide +kernel
theorem dX11_seek_36 : decode cX11_seek 36 = .ok (.ifCond .ne 7, 3) := by decide +kernel
theorem dX11_seek_39 : decode cX11_seek 39 = .ok (.iconst (-1), 1) := by decide +kernel
theorem dX11_seek_40 : decode cX11_seek 40 = .ok (.goto 4, 3) := by decide +kernel
theorem dX11_seek_43 : decode cX11_seek 43 = .ok (.iload_n 2, 1) := by decide +kernel
theorem dX11_seek_44 : decode cX11_seek 44 = .ok (.ireturn, 1) := by decide +kernel
theorem dX11_cost_0 : decode cX11_cost 0 = .ok (.aload_n 0, 1) := by decide +kernel
theorem dX11_cost_1 : decode cX11_cost 1 = .ok (.iconst 0, 1) := by decide +kernel
theorem dX11_cost_2 : decode cX11_cost 2 = .ok (.putfield 152, 3) := by decide +kernel
theorem dX11_cost_5 : decode cX11_cost 5 = .ok (.aload_n 0, 1) := by decide +kernel
theorem dX11_cost_6 : decode cX11_cost 6 = .ok (.iload_n 1, 1) := by decide +kernel
theorem dX11_cost_7 : decode cX11_cost 7 = .ok (.invokevirtual 382, 3) := by decide +kernel
theorem dX11_cost_10 : decode cX11_cost 10 = .ok (.ifCond .eq 19, 3) := by decide +kernel
theorem dX11_cost_13 : decode cX11_cost 13 = .ok (.aload_n 0, 1) := by decide +kernel
theorem dX11_cost_14 : decode cX11_cost 14 = .ok (.iload_n 1, 1) := by decide +kernel
theorem dX11_cost_15 : decode cX11_cost 15 = .ok (.invokevirtual 397, 3) := by decide +kernel
theorem dX11_cost_18 : decode cX11_cost 18 = .ok (.ifCond .eq 11, 3) := by decide +kernel
theorem dX11_cost_21 : decode cX11_cost 21 = .ok (.aload_n 0, 1) := by decide +kernel
theorem dX11_cost_22 : decode cX11_cost 22 = .ok (.iload_n 1, 1) := by decide +kernel
theorem dX11_cost_23 : decode cX11_cost 23 = .ok (.invokevirtual 457, 3) := by decide +kernel
theorem dX11_cost_26 : decode cX11_cost 26 = .ok (.goto 4, 3) := by decide +kernel
theorem dX11_cost_29 : decode cX11_cost 29 = .ok (.iconst (-1), 1) := by decide +kernel
theorem dX11_cost_30 : decode cX11_cost 30 = .ok (.ireturn, 1) := by decide +kernel
theorem dX11_price_0 : decode cX11_price 0 = .ok (.aload_n 0, 1) := by decide +kernel
theorem dX11_price_1 : decode cX11_price 1 = .ok (.iconst 0, 1) := by decide +kernel
theorem dX11_price_2 : decode cX11_price 2 = .ok (.putfield 152, 3) := by decide +kernel
theorem dX11_price_5 : decode cX11_price 5 = .ok (.aload_n 0, 1) := by decide +kernel
theorem dX11_price_6 : decode cX11_price 6 = .ok (.iload_n 1, 1) := by decide +kernel
theorem dX11_price_7 : decode cX11_price 7 = .ok (.invokevirtual 382, 3) := by decide +kernel
theorem dX11_price_10 : decode cX11_price 10 = .ok (.ifCond .eq 19, 3) := by decide +kernel
theorem dX11_price_13 : decode cX11_price 13 = .ok (.aload_n 0, 1) := by decide +kernel
theorem dX11_price_14 : decode cX11_price 14 = .ok (.iload_n 1, 1) := by decide +kernel
theorem dX11_price_15 : decode cX11_price 15 = .ok (.invokevirtual 403, 3) := by decide +kernel
theorem dX11_price_18 : decode cX11_price 18 = .ok (.ifCond .eq 11, 3) := by decide +kernel
theorem dX11_price_21 : decode cX11_price 21 = .ok (.aload_n 0, 1) := by decide +kernel
theorem dX11_price_22 : decode cX11_price 22 = .ok (.iload_n 1, 1) := by decide +kernel
theorem dX11_price_23 : decode cX11_price 23 = .ok (.invokevirtual 367, 3) := by decide +kernel
theorem dX11_price_26 : decode cX11_price 26 = .ok (.goto 4, 3) := by decide +kernel
theorem dX11_price_29 : decode cX11_price 29 = .ok (.iconst (-1), 1) := by decide +kernel
theorem dX11_price_30 : decode cX11_price 30 = .ok (.ireturn, 1) := by decide +kernel
theorem dX11_unitNow_0 : decode cX11_unitNow 0 = .ok (.iconst 0, 1) := by decide +kernel
theorem dX11_unitNow_1 : decode cX11_unitNow 1 = .ok (.istore_n 3, 1) := by decide +kernel
theorem dX11_unitNow_2 : decode cX11_unitNow 2 = .ok (.iload_n 3, 1) := by decide +kernel
theorem dX11_unitNow_3 : decode cX11_unitNow 3 = .ok (.aload_n 0, 1) := by decide +kernel
theorem dX11_unitNow_4 : decode cX11_unitNow 4 = .ok (.getfield 74, 3) := by decide +kernel
theorem dX11_unitNow_7 : decode cX11_unitNow 7 = .ok (.iload_n 1, 1) := by decide +kernel
theorem dX11_unitNow_8 : decode cX11_unitNow 8 = .ok (.iaload, 1) := by decide +kernel
theorem dX11_unitNow_9 : decode cX11_unitNow 9 = .ok (.if_icmp .ge 24, 3) := by decide +kernel
theorem dX11_unitNow_12 : decode cX11_unitNow 12 = .ok (.aload_n 0, 1) := by decide +kernel
theorem dX11_unitNow_13 : decode cX11_unitNow 13 = .ok (.iconst 5, 1) := by decide +kernel
theorem dX11_unitNow_14 : decode cX11_unitNow 14 = .ok (.iload_n 1, 1) := by decide +kernel
theorem dX11_unitNow_15 : decode cX11_unitNow 15 = .ok (.imul, 1) := by decide +kernel
theorem dX11_unitNow_16 : decode cX11_unitNow 16 = .ok (.iload_n 3, 1) := by decide +kernel
theorem dX11_unitNow_17 : decode cX11_unitNow 17 = .ok (.iadd, 1) := by decide +kernel
theorem dX11_unitNow_18 : decode cX11_unitNow 18 = .ok (.invokevirtual 358, 3) := by decide +kernel
theorem dX11_unitNow_21 : decode cX11_unitNow 21 = .ok (.iload_n 2, 1) := by decide +kernel
theorem dX11_unitNow_22 : decode cX11_unitNow 22 = .ok (.if_icmp .ne 5, 3) := by decide +kernel
theorem dX11_unitNow_25 : decode cX11_unitNow 25 = .ok (.iload_n 3, 1) := by decide +kernel
theorem dX11_unitNow_26 : decode cX11_unitNow 26 = .ok (.ireturn, 1) := by decide +kernel
theorem dX11_unitNow_27 : decode cX11_unitNow 27 = .ok (.iinc 3 1, 3) := by decide +kernel
theorem dX11_unitNow_30 : decode cX11_unitNow 30 = .ok (.goto (-28), 3) := by decide +kernel
theorem dX11_unitNow_33 : decode cX11_unitNow 33 = .ok (.iconst (-1), 1) := by decide +kernel
theorem dX11_unitNow_34 : decode cX11_unitNow 34 = .ok (.ireturn, 1) := by decide +kernel
theorem dX11_would_0 : decode cX11_would 0 = .ok (.aload_n 0, 1) := by decide +kernel
theorem dX11_would_1 : decode cX11_would 1 = .ok (.iconst 0, 1) := by decide +kernel
theorem dX11_would_2 : decode cX11_would 2 = .ok (.putfield 152, 3) := by decide +kernel
theorem dX11_would_5 : decode cX11_would 5 = .ok (.aload_n 0, 1) := by decide +kernel
theorem dX11_would_6 : decode cX11_would 6 = .ok (.iload_n 1, 1) := by decide +kernel
theorem dX11_would_7 : decode cX11_would 7 = .ok (.invokevirtual 385, 3) := by decide +kernel
theorem dX11_would_10 : decode cX11_would 10 = .ok (.ifCond .eq 32, 3) := by decide +kernel
theorem dX11_would_13 : decode cX11_would 13 = .ok (.aload_n 0, 1) := by decide +kernel
theorem dX11_would_14 : decode cX11_would 14 = .ok (.iload_n 2, 1) := by decide +kernel
theorem dX11_would_15 : decode cX11_would 15 = .ok (.invokevirtual 385, 3) := by decide +kernel
theorem dX11_would_18 : decode cX11_would 18 = .ok (.ifCond .eq 24, 3) := by decide +kernel
theorem dX11_would_21 : decode cX11_would 21 = .ok (.iload_n 1, 1) := by decide +kernel
theorem dX11_would_22 : decode cX11_would 22 = .ok (.iload_n 2, 1) := by decide +kernel
theorem dX11_would_23 : decode cX11_would 23 = .ok (.if_icmp .eq 19, 3) := by decide +kernel
theorem dX11_would_26 : decode cX11_would 26 = .ok (.aload_n 0, 1) := by decide +kernel
theorem dX11_would_27 : decode cX11_would 27 = .ok (.iload_n 1, 1) := by decide +kernel
theorem dX11_would_28 : decode cX11_would 28 = .ok (.invokevirtual 373, 3) := by decide +kernel
theorem dX11_would_31 : decode cX11_would 31 = .ok (.ifCond .eq 11, 3) := by decide +kernel
theorem dX11_would_34 : decode cX11_would 34 = .ok (.aload_n 0, 1) := by decide +kernel
theorem dX11_would_35 : decode cX11_would 35 = .ok (.iload_n 2, 1) := by decide +kernel
theorem dX11_would_36 : decode cX11_would 36 = .ok (.invokevirtual 373, 3) := by decide +kernel
theorem dX11_would_39 : decode cX11_would 39 = .ok (.ifCond .ne 5, 3) := by decide +kernel
theorem dX11_would_42 : decode cX11_would 42 = .ok (.iconst (-1), 1) := by decide +kernel
theorem dX11_would_43 : decode cX11_would 43 = .ok (.ireturn, 1) := by decide +kernel
theorem dX11_would_44 : decode cX11_would 44 = .ok (.iconst 0, 1) := by decide +kernel
theorem dX11_would_45 : decode cX11_would 45 = .ok (.istore_n 3, 1) := by decide +kernel
theorem dX11_would_46 : decode cX11_would 46 = .ok (.iconst 0, 1) := by decide +kernel
theorem dX11_would_47 : decode cX11_would 47 = .ok (.istore 4, 2) := by decide +kernel
theorem dX11_would_49 : decode cX11_would 49 = .ok (.iload 4, 2) := by decide +kernel
theorem dX11_would_51 : decode cX11_would 51 = .ok (.aload_n 0, 1) := by decide +kernel
theorem dX11_would_52 : decode cX11_would 52 = .ok (.getfield 71, 3) := by decide +kernel
theorem dX11_would_55 : decode cX11_would 55 = .ok (.iconst 0, 1) := by decide +kernel
theorem dX11_would_56 : decode cX11_would 56 = .ok (.iaload, 1) := by decide +kernel
theorem dX11_would_57 : decode cX11_would 57 = .ok (.if_icmp .ge 46, 3) := by decide +kernel
theorem dX11_would_60 : decode cX11_would 60 = .ok (.iload_n 3, 1) := by decide +kernel
theorem dX11_would_61 : decode cX11_would 61 = .ok (.aload_n 0, 1) := by decide +kernel
theorem dX11_would_62 : decode cX11_would 62 = .ok (.iload 4, 2) := by decide +kernel
theorem dX11_would_64 : decode cX11_would 64 = .ok (.invokevirtual 355, 3) := by decide +kernel
theorem dX11_would_67 : decode cX11_would 67 = .ok (.ifCond .ne 27, 3) := by decide +kernel
theorem dX11_would_70 : decode cX11_would 70 = .ok (.aload_n 0, 1) := by decide +kernel
theorem dX11_would_71 : decode cX11_would 71 = .ok (.iload 4, 2) := by decide +kernel
theorem dX11_would_73 : decode cX11_would 73 = .ok (.iload_n 1, 1) := by decide +kernel
theorem dX11_would_74 : decode cX11_would 74 = .ok (.invokevirtual 460, 3) := by decide +kernel
theorem dX11_would_77 : decode cX11_would 77 = .ok (.ifCond .lt 17, 3) := by decide +kernel
theorem dX11_would_80 : decode cX11_would 80 = .ok (.aload_n 0, 1) := by decide +kernel
theorem dX11_would_81 : decode cX11_would 81 = .ok (.iload 4, 2) := by decide +kernel
theorem dX11_would_83 : decode cX11_would 83 = .ok (.iload_n 2, 1) := by decide +kernel
theorem dX11_would_84 : decode cX11_would 84 = .ok (.invokevirtual 460, 3) := by decide +kernel
theorem dX11_would_87 : decode cX11_would 87 = .ok (.ifCond .lt 7, 3) := by decide +kernel
theorem dX11_would_90 : decode cX11_would 90 = .ok (.iconst 1, 1) := by decide +kernel
theorem dX11_would_91 : decode cX11_would 91 = .ok (.goto 4, 3) := by decide +kernel
theorem dX11_would_94 : decode cX11_would 94 = .ok (.iconst 0, 1) := by decide +kernel
theorem dX11_would_95 : decode cX11_would 95 = .ok (.iadd, 1) := by decide +kernel
theorem dX11_would_96 : decode cX11_would 96 = .ok (.istore_n 3, 1) := by decide +kernel
theorem dX11_would_97 : decode cX11_would 97 = .ok (.iinc 4 1, 3) := by decide +kernel
theorem dX11_would_100 : decode cX11_would 100 = .ok (.goto (-51), 3) := by decide +kernel
theorem dX11_would_103 : decode cX11_would 103 = .ok (.iload_n 3, 1) := by decide +kernel
theorem dX11_would_104 : decode cX11_would 104 = .ok (.ireturn, 1) := by decide +kernel
theorem dX11_fitsIn_0 : decode cX11_fitsIn 0 = .ok (.aload_n 0, 1) := by decide +kernel
theorem dX11_fitsIn_1 : decode cX11_fitsIn 1 = .ok (.getfield 143, 3) := by decide +kernel
theorem dX11_fitsIn_4 : decode cX11_fitsIn 4 = .ok (.aload_n 0, 1) := by decide +kernel
theorem dX11_fitsIn_5 : decode cX11_fitsIn 5 = .ok (.getfield 83, 3) := by decide +kernel
theorem dX11_fitsIn_8 : decode cX11_fitsIn 8 = .ok (.iload_n 1, 1) := by decide +kernel
theorem dX11_fitsIn_9 : decode cX11_fitsIn 9 = .ok (.iaload, 1) := by decide +kernel
theorem dX11_fitsIn_10 : decode cX11_fitsIn 10 = .ok (.iaload, 1) := by decide +kernel
theorem dX11_fitsIn_11 : decode cX11_fitsIn 11 = .ok (.ifCond .ne 5, 3) := by decide +kernel
theorem dX11_fitsIn_14 : decode cX11_fitsIn 14 = .ok (.iconst 0, 1) := by decide +kernel
theorem dX11_fitsIn_15 : decode cX11_fitsIn 15 = .ok (.ireturn, 1) := by decide +kernel
theorem dX11_fitsIn_16 : decode cX11_fitsIn 16 = .ok (.iconst 0, 1) := by decide +kernel
theorem dX11_fitsIn_17 : decode cX11_fitsIn 17 = .ok (.istore_n 3, 1) := by decide +kernel
theorem dX11_fitsIn_18 : decode cX11_fitsIn 18 = .ok (.iload_n 3, 1) := by decide +kernel
theorem dX11_fitsIn_19 : decode cX11_fitsIn 19 = .ok (.aload_n 0, 1) := by decide +kernel
theorem dX11_fitsIn_20 : decode cX11_fitsIn 20 = .ok (.getfield 74, 3) := by decide +kernel
theorem dX11_fitsIn_23 : decode cX11_fitsIn 23 = .ok (.iload_n 1, 1) := by decide +kernel
theorem dX11_fitsIn_24 : decode cX11_fitsIn 24 = .ok (.iaload, 1) := by decide +kernel
theorem dX11_fitsIn_25 : decode cX11_fitsIn 25 = .ok (.if_icmp .ge 43, 3) := by decide +kernel
theorem dX11_fitsIn_28 : decode cX11_fitsIn 28 = .ok (.aload_n 0, 1) := by decide +kernel
theorem dX11_fitsIn_29 : decode cX11_fitsIn 29 = .ok (.getfield 89, 3) := by decide +kernel
theorem dX11_fitsIn_32 : decode cX11_fitsIn 32 = .ok (.iconst 5, 1) := by decide +kernel
theorem dX11_fitsIn_33 : decode cX11_fitsIn 33 = .ok (.iload_n 1, 1) := by decide +kernel
theorem dX11_fitsIn_34 : decode cX11_fitsIn 34 = .ok (.imul, 1) := by decide +kernel
theorem dX11_fitsIn_35 : decode cX11_fitsIn 35 = .ok (.iload_n 3, 1) := by decide +kernel
theorem dX11_fitsIn_36 : decode cX11_fitsIn 36 = .ok (.iadd, 1) := by decide +kernel
theorem dX11_fitsIn_37 : decode cX11_fitsIn 37 = .ok (.iaload, 1) := by decide +kernel
theorem dX11_fitsIn_38 : decode cX11_fitsIn 38 = .ok (.iload_n 2, 1) := by decide +kernel
theorem dX11_fitsIn_39 : decode cX11_fitsIn 39 = .ok (.if_icmp .eq 23, 3) := by decide +kernel
theorem dX11_fitsIn_42 : decode cX11_fitsIn 42 = .ok (.aload_n 0, 1) := by decide +kernel
theorem dX11_fitsIn_43 : decode cX11_fitsIn 43 = .ok (.getfield 143, 3) := by decide +kernel
theorem dX11_fitsIn_46 : decode cX11_fitsIn 46 = .ok (.aload_n 0, 1) := by decide +kernel
theorem dX11_fitsIn_47 : decode cX11_fitsIn 47 = .ok (.getfield 89, 3) := by decide +kernel
theorem dX11_fitsIn_50 : decode cX11_fitsIn 50 = .ok (.iconst 5, 1) := by decide +kernel
theorem dX11_fitsIn_51 : decode cX11_fitsIn 51 = .ok (.iload_n 1, 1) := by decide +kernel
theorem dX11_fitsIn_52 : decode cX11_fitsIn 52 = .ok (.imul, 1) := by decide +kernel
theorem dX11_fitsIn_53 : decode cX11_fitsIn 53 = .ok (.iload_n 3, 1) := by decide +kernel
theorem dX11_fitsIn_54 : decode cX11_fitsIn 54 = .ok (.iadd, 1) := by decide +kernel
theorem dX11_fitsIn_55 : decode cX11_fitsIn 55 = .ok (.iaload, 1) := by decide +kernel
theorem dX11_fitsIn_56 : decode cX11_fitsIn 56 = .ok (.iaload, 1) := by decide +kernel
theorem dX11_fitsIn_57 : decode cX11_fitsIn 57 = .ok (.ifCond .ne 5, 3) := by decide +kernel
theorem dX11_fitsIn_60 : decode cX11_fitsIn 60 = .ok (.iconst 0, 1) := by decide +kernel
theorem dX11_fitsIn_61 : decode cX11_fitsIn 61 = .ok (.ireturn, 1) := by decide +kernel
theorem dX11_fitsIn_62 : decode cX11_fitsIn 62 = .ok (.iinc 3 1, 3) := by decide +kernel
theorem dX11_fitsIn_65 : decode cX11_fitsIn 65 = .ok (.goto (-47), 3) := by decide +kernel
theorem dX11_fitsIn_68 : decode cX11_fitsIn 68 = .ok (.aload_n 0, 1) := by decide +kernel
theorem dX11_fitsIn_69 : decode cX11_fitsIn 69 = .ok (.getfield 143, 3) := by decide +kernel
theorem dX11_fitsIn_72 : decode cX11_fitsIn 72 = .ok (.aload_n 0, 1) := by decide +kernel
theorem dX11_fitsIn_73 : decode cX11_fitsIn 73 = .ok (.getfield 83, 3) := by decide +kernel
theorem dX11_fitsIn_76 : decode cX11_fitsIn 76 = .ok (.iload_n 1, 1) := by decide +kernel
theorem dX11_fitsIn_77 : decode cX11_fitsIn 77 = .ok (.iaload, 1) := by decide +kernel
theorem dX11_fitsIn_78 : decode cX11_fitsIn 78 = .ok (.dup2, 1) := by decide +kernel
theorem dX11_fitsIn_79 : decode cX11_fitsIn 79 = .ok (.iaload, 1) := by decide +kernel
theorem dX11_fitsIn_80 : decode cX11_fitsIn 80 = .ok (.iconst 1, 1) := by decide +kernel
theorem dX11_fitsIn_81 : decode cX11_fitsIn 81 = .ok (.isub, 1) := by decide +kernel
theorem dX11_fitsIn_82 : decode cX11_fitsIn 82 = .ok (.iastore, 1) := by decide +kernel
theorem dX11_fitsIn_83 : decode cX11_fitsIn 83 = .ok (.iconst 0, 1) := by decide +kernel
theorem dX11_fitsIn_84 : decode cX11_fitsIn 84 = .ok (.istore_n 3, 1) := by decide +kernel
theorem dX11_fitsIn_85 : decode cX11_fitsIn 85 = .ok (.iload_n 3, 1) := by decide +kernel
theorem dX11_fitsIn_86 : decode cX11_fitsIn 86 = .ok (.aload_n 0, 1) := by decide +kernel
theorem dX11_fitsIn_87 : decode cX11_fitsIn 87 = .ok (.getfield 74, 3) := by decide +kernel
theorem dX11_fitsIn_90 : decode cX11_fitsIn 90 = .ok (.iload_n 1, 1) := by decide +kernel
theorem dX11_fitsIn_91 : decode cX11_fitsIn 91 = .ok (.iaload, 1) := by decide +kernel
theorem dX11_fitsIn_92 : decode cX11_fitsIn 92 = .ok (.if_icmp .ge 42, 3) := by decide +kernel
theorem dX11_fitsIn_95 : decode cX11_fitsIn 95 = .ok (.aload_n 0, 1) := by decide +kernel
theorem dX11_fitsIn_96 : decode cX11_fitsIn 96 = .ok (.getfield 89, 3) := by decide +kernel
theorem dX11_fitsIn_99 : decode cX11_fitsIn 99 = .ok (.iconst 5, 1) := by decide +kernel
theorem dX11_fitsIn_100 : decode cX11_fitsIn 100 = .ok (.iload_n 1, 1) := by decide +kernel
theorem dX11_fitsIn_101 : decode cX11_fitsIn 101 = .ok (.imul, 1) := by decide +kernel
theorem dX11_fitsIn_102 : decode cX11_fitsIn 102 = .ok (.iload_n 3, 1) := by decide +kernel
theorem dX11_fitsIn_103 : decode cX11_fitsIn 103 = .ok (.iadd, 1) := by decide +kernel
theorem dX11_fitsIn_104 : decode cX11_fitsIn 104 = .ok (.iaload, 1) := by decide +kernel
theorem dX11_fitsIn_105 : decode cX11_fitsIn 105 = .ok (.iload_n 2, 1) := by decide +kernel
theorem dX11_fitsIn_106 : decode cX11_fitsIn 106 = .ok (.if_icmp .eq 22, 3) := by decide +kernel
theorem dX11_fitsIn_109 : decode cX11_fitsIn 109 = .ok (.aload_n 0, 1) := by decide +kernel
theorem dX11_fitsIn_110 : decode cX11_fitsIn 110 = .ok (.getfield 143, 3) := by decide +kernel
theorem dX11_fitsIn_113 : decode cX11_fitsIn 113 = .ok (.aload_n 0, 1) := by decide +kernel
theorem dX11_fitsIn_114 : decode cX11_fitsIn 114 = .ok (.getfield 89, 3) := by decide +kernel
theorem dX11_fitsIn_117 : decode cX11_fitsIn 117 = .ok (.iconst 5, 1) := by decide +kernel
theorem dX11_fitsIn_118 : decode cX11_fitsIn 118 = .ok (.iload_n 1, 1) := by decide +kernel
theorem dX11_fitsIn_119 : decode cX11_fitsIn 119 = .ok (.imul, 1) := by decide +kernel
theorem dX11_fitsIn_120 : decode cX11_fitsIn 120 = .ok (.iload_n 3, 1) := by decide +kernel
theorem dX11_fitsIn_121 : decode cX11_fitsIn 121 = .ok (.iadd, 1) := by decide +kernel
theorem dX11_fitsIn_122 : decode cX11_fitsIn 122 = .ok (.iaload, 1) := by decide +kernel
theorem dX11_fitsIn_123 : decode cX11_fitsIn 123 = .ok (.dup2, 1) := by decide +kernel
theorem dX11_fitsIn_124 : decode cX11_fitsIn 124 = .ok (.iaload, 1) := by decide +kernel
theorem dX11_fitsIn_125 : decode cX11_fitsIn 125 = .ok (.iconst 1, 1) := by decide +kernel
theorem dX11_fitsIn_126 : decode cX11_fitsIn 126 = .ok (.isub, 1) := by decide +kernel
theorem dX11_fitsIn_127 : decode cX11_fitsIn 127 = .ok (.iastore, 1) := by decide +kernel
theorem dX11_fitsIn_128 : decode cX11_fitsIn 128 = .ok (.iinc 3 1, 3) := by decide +kernel
theorem dX11_fitsIn_131 : decode cX11_fitsIn 131 = .ok (.goto (-46), 3) := by decide +kernel
theorem dX11_fitsIn_134 : decode cX11_fitsIn 134 = .ok (.iconst 1, 1) := by decide +kernel
theorem dX11_fitsIn_135 : decode cX11_fitsIn 135 = .ok (.ireturn, 1) := by decide +kernel
theorem dX11_time_0 : decode cX11_time 0 = .ok (.aload_n 0, 1) := by decide +kernel
theorem dX11_time_1 : decode cX11_time 1 = .ok (.iconst 0, 1) := by decide +kernel
theorem dX11_time_2 : decode cX11_time 2 = .ok (.putfield 152, 3) := by decide +kernel
theorem dX11_time_5 : decode cX11_time 5 = .ok (.aload_n 0, 1) := by decide +kernel
theorem dX11_time_6 : decode cX11_time 6 = .ok (.iload_n 1, 1) := by decide +kernel
theorem dX11_time_7 : decode cX11_time 7 = .ok (.invokevirtual 385, 3) := by decide +kernel
theorem dX11_time_10 : decode cX11_time 10 = .ok (.ifCond .eq 27, 3) := by decide +kernel
theorem dX11_time_13 : decode cX11_time 13 = .ok (.aload_n 0, 1) := by decide +kernel
theorem dX11_time_14 : decode cX11_time 14 = .ok (.iload_n 1, 1) := by decide +kernel
theorem dX11_time_15 : decode cX11_time 15 = .ok (.invokevirtual 373, 3) := by decide +kernel
theorem dX11_time_18 : decode cX11_time 18 = .ok (.ifCond .eq 19, 3) := by decide +kernel
theorem dX11_time_21 : decode cX11_time 21 = .ok (.iload_n 2, 1) := by decide +kernel
theorem dX11_time_22 : decode cX11_time 22 = .ok (.iconst 0, 1) := by decide +kernel
theorem dX11_time_23 : decode cX11_time 23 = .ok (.aload_n 0, 1) := by decide +kernel
theorem dX11_time_24 : decode cX11_time 24 = .ok (.getfield 13, 3) := by decide +kernel
theorem dX11_time_27 : decode cX11_time 27 = .ok (.iconst 2, 1) := by decide +kernel
theorem dX11_time_28 : decode cX11_time 28 = .ok (.iaload, 1) := by decide +kernel
theorem dX11_time_29 : decode cX11_time 29 = .ok (.iconst 1, 1) := by decide +kernel
theorem dX11_time_30 : decode cX11_time 30 = .ok (.isub, 1) := by decide +kernel
theorem dX11_time_31 : decode cX11_time 31 = .ok (.invokestatic 239, 3) := by decide +kernel
theorem dX11_time_34 : decode cX11_time 34 = .ok (.ifCond .ne 5, 3) := by decide +kernel
theorem dX11_time_37 : decode cX11_time 37 = .ok (.iconst (-1), 1) := by decide +kernel
theorem dX11_time_38 : decode cX11_time 38 = .ok (.ireturn, 1) := by decide +kernel
theorem dX11_time_39 : decode cX11_time 39 = .ok (.iconst 0, 1) := by decide +kernel
theorem dX11_time_40 : decode cX11_time 40 = .ok (.istore_n 3, 1) := by decide +kernel
theorem dX11_time_41 : decode cX11_time 41 = .ok (.iconst 0, 1) := by decide +kernel
theorem dX11_time_42 : decode cX11_time 42 = .ok (.istore 4, 2) := by decide +kernel
theorem dX11_time_44 : decode cX11_time 44 = .ok (.iload 4, 2) := by decide +kernel
theorem dX11_time_46 : decode cX11_time 46 = .ok (.aload_n 0, 1) := by decide +kernel
theorem dX11_time_47 : decode cX11_time 47 = .ok (.getfield 71, 3) := by decide +kernel
theorem dX11_time_50 : decode cX11_time 50 = .ok (.iconst 0, 1) := by decide +kernel
theorem dX11_time_51 : decode cX11_time 51 = .ok (.iaload, 1) := by decide +kernel
theorem dX11_time_52 : decode cX11_time 52 = .ok (.if_icmp .ge 91, 3) := by decide +kernel
theorem dX11_time_55 : decode cX11_time 55 = .ok (.aload_n 0, 1) := by decide +kernel
theorem dX11_time_56 : decode cX11_time 56 = .ok (.getfield 140, 3) := by decide +kernel
theorem dX11_time_59 : decode cX11_time 59 = .ok (.iload 4, 2) := by decide +kernel
theorem dX11_time_61 : decode cX11_time 61 = .ok (.aload_n 0, 1) := by decide +kernel
theorem dX11_time_62 : decode cX11_time 62 = .ok (.iload 4, 2) := by decide +kernel
theorem dX11_time_64 : decode cX11_time 64 = .ok (.invokevirtual 355, 3) := by decide +kernel
theorem dX11_time_67 : decode cX11_time 67 = .ok (.ifCond .ne 50, 3) := by decide +kernel
theorem dX11_time_70 : decode cX11_time 70 = .ok (.aload_n 0, 1) := by decide +kernel
theorem dX11_time_71 : decode cX11_time 71 = .ok (.iload 4, 2) := by decide +kernel
theorem dX11_time_73 : decode cX11_time 73 = .ok (.invokevirtual 376, 3) := by decide +kernel
theorem dX11_time_76 : decode cX11_time 76 = .ok (.ifCond .ge 41, 3) := by decide +kernel
theorem dX11_time_79 : decode cX11_time 79 = .ok (.aload_n 0, 1) := by decide +kernel
theorem dX11_time_80 : decode cX11_time 80 = .ok (.iload 4, 2) := by decide +kernel
theorem dX11_time_82 : decode cX11_time 82 = .ok (.iload_n 1, 1) := by decide +kernel
theorem dX11_time_83 : decode cX11_time 83 = .ok (.invokevirtual 309, 3) := by decide +kernel
theorem dX11_time_86 : decode cX11_time 86 = .ok (.ifCond .lt 31, 3) := by decide +kernel
theorem dX11_time_89 : decode cX11_time 89 = .ok (.aload_n 0, 1) := by decide +kernel
theorem dX11_time_90 : decode cX11_time 90 = .ok (.getfield 83, 3) := by decide +kernel
theorem dX11_time_93 : decode cX11_time 93 = .ok (.iload 4, 2) := by decide +kernel
theorem dX11_time_95 : decode cX11_time 95 = .ok (.iaload, 1) := by decide +kernel
theorem dX11_time_96 : decode cX11_time 96 = .ok (.ifCond .lt 21, 3) := by decide +kernel
theorem dX11_time_99 : decode cX11_time 99 = .ok (.aload_n 0, 1) := by decide +kernel
theorem dX11_time_100 : decode cX11_time 100 = .ok (.aload_n 0, 1) := by decide +kernel
theorem dX11_time_101 : decode cX11_time 101 = .ok (.getfield 83, 3) := by decide +kernel
theorem dX11_time_104 : decode cX11_time 104 = .ok (.iload 4, 2) := by decide +kernel
theorem dX11_time_106 : decode cX11_time 106 = .ok (.iaload, 1) := by decide +kernel
theorem dX11_time_107 : decode cX11_time 107 = .ok (.invokevirtual 373, 3) := by decide +kernel
theorem dX11_time_110 : decode cX11_time 110 = .ok (.ifCond .eq 7, 3) := by decide +kernel
theorem dX11_time_113 : decode cX11_time 113 = .ok (.iconst 1, 1) := by decide +kernel
theorem dX11_time_114 : decode cX11_time 114 = .ok (.goto 4, 3) := by decide +kernel
theorem dX11_time_117 : decode cX11_time 117 = .ok (.iconst 0, 1) := by decide +kernel
theorem dX11_time_118 : decode cX11_time 118 = .ok (.bastore, 1) := by decide +kernel
theorem dX11_time_119 : decode cX11_time 119 = .ok (.iload_n 3, 1) := by decide +kernel
theorem dX11_time_120 : decode cX11_time 120 = .ok (.aload_n 0, 1) := by decide +kernel
theorem dX11_time_121 : decode cX11_time 121 = .ok (.getfield 140, 3) := by decide +kernel
theorem dX11_time_124 : decode cX11_time 124 = .ok (.iload 4, 2) := by decide +kernel
theorem dX11_time_126 : decode cX11_time 126 = .ok (.baload, 1) := by decide +kernel
theorem dX11_time_127 : decode cX11_time 127 = .ok (.ifCond .eq 7, 3) := by decide +kernel
theorem dX11_time_130 : decode cX11_time 130 = .ok (.iconst 1, 1) := by decide +kernel
theorem dX11_time_131 : decode cX11_time 131 = .ok (.goto 4, 3) := by decide +kernel
theorem dX11_time_134 : decode cX11_time 134 = .ok (.iconst 0, 1) := by decide +kernel
theorem dX11_time_135 : decode cX11_time 135 = .ok (.iadd, 1) := by decide +kernel
theorem dX11_time_136 : decode cX11_time 136 = .ok (.istore_n 3, 1) := by decide +kernel
theorem dX11_time_137 : decode cX11_time 137 = .ok (.iinc 4 1, 3) := by decide +kernel
theorem dX11_time_140 : decode cX11_time 140 = .ok (.goto (-96), 3) := by decide +kernel
theorem dX11_time_143 : decode cX11_time 143 = .ok (.iconst 0, 1) := by decide +kernel
theorem dX11_time_144 : decode cX11_time 144 = .ok (.istore 4, 2) := by decide +kernel
theorem dX11_time_146 : decode cX11_time 146 = .ok (.iload_n 3, 1) := by decide +kernel
theorem dX11_time_147 : decode cX11_time 147 = .ok (.ifCond .le 94, 3) := by decide +kernel
theorem dX11_time_150 : decode cX11_time 150 = .ok (.iinc 4 1, 3) := by decide +kernel
theorem dX11_time_153 : decode cX11_time 153 = .ok (.iconst 0, 1) := by decide +kernel
theorem dX11_time_154 : decode cX11_time 154 = .ok (.istore 5, 2) := by decide +kernel
theorem dX11_time_156 : decode cX11_time 156 = .ok (.iload 5, 2) := by decide +kernel
theorem dX11_time_158 : decode cX11_time 158 = .ok (.bipush 13, 2) := by decide +kernel
theorem dX11_time_160 : decode cX11_time 160 = .ok (.if_icmp .ge 24, 3) := by decide +kernel
theorem dX11_time_163 : decode cX11_time 163 = .ok (.aload_n 0, 1) := by decide +kernel
theorem dX11_time_164 : decode cX11_time 164 = .ok (.getfield 143, 3) := by decide +kernel
theorem dX11_time_167 : decode cX11_time 167 = .ok (.iload 5, 2) := by decide +kernel
theorem dX11_time_169 : decode cX11_time 169 = .ok (.aload_n 0, 1) := by decide +kernel
theorem dX11_time_170 : decode cX11_time 170 = .ok (.getfield 13, 3) := by decide +kernel
theorem dX11_time_173 : decode cX11_time 173 = .ok (.iconst 2, 1) := by decide +kernel
theorem dX11_time_174 : decode cX11_time 174 = .ok (.iaload, 1) := by decide +kernel
theorem dX11_time_175 : decode cX11_time 175 = .ok (.iload_n 2, 1) := by decide +kernel
theorem dX11_time_176 : decode cX11_time 176 = .ok (.isub, 1) := by decide +kernel
theorem dX11_time_177 : decode cX11_time 177 = .ok (.iastore, 1) := by decide +kernel
theorem dX11_time_178 : decode cX11_time 178 = .ok (.iinc 5 1, 3) := by decide +kernel
theorem dX11_time_181 : decode cX11_time 181 = .ok (.goto (-25), 3) := by decide +kernel
theorem dX11_time_184 : decode cX11_time 184 = .ok (.iconst 0, 1) := by decide +kernel
theorem dX11_time_185 : decode cX11_time 185 = .ok (.istore 5, 2) := by decide +kernel
theorem dX11_time_187 : decode cX11_time 187 = .ok (.iload 5, 2) := by decide +kernel
theorem dX11_time_189 : decode cX11_time 189 = .ok (.aload_n 0, 1) := by decide +kernel
theorem dX11_time_190 : decode cX11_time 190 = .ok (.getfield 71, 3) := by decide +kernel
theorem dX11_time_193 : decode cX11_time 193 = .ok (.iconst 0, 1) := by decide +kernel
theorem dX11_time_194 : decode cX11_time 194 = .ok (.iaload, 1) := by decide +kernel
theorem dX11_time_195 : decode cX11_time 195 = .ok (.if_icmp .ge 43, 3) := by decide +kernel
theorem dX11_time_198 : decode cX11_time 198 = .ok (.aload_n 0, 1) := by decide +kernel
theorem dX11_time_199 : decode cX11_time 199 = .ok (.getfield 140, 3) := by decide +kernel
theorem dX11_time_202 : decode cX11_time 202 = .ok (.iload 5, 2) := by decide +kernel
theorem dX11_time_204 : decode cX11_time 204 = .ok (.baload, 1) := by decide +kernel
theorem dX11_time_205 : decode cX11_time 205 = .ok (.ifCond .eq 27, 3) := by decide +kernel
theorem dX11_time_208 : decode cX11_time 208 = .ok (.aload_n 0, 1) := by decide +kernel
theorem dX11_time_209 : decode cX11_time 209 = .ok (.iload 5, 2) := by decide +kernel
theorem dX11_time_211 : decode cX11_time 211 = .ok (.iload_n 1, 1) := by decide +kernel
theorem dX11_time_212 : decode cX11_time 212 = .ok (.invokevirtual 463, 3) := by decide +kernel
theorem dX11_time_215 : decode cX11_time 215 = .ok (.ifCond .ne 6, 3) := by decide +kernel
theorem dX11_time_218 : decode cX11_time 218 = .ok (.goto 14, 3) := by decide +kernel
theorem dX11_time_221 : decode cX11_time 221 = .ok (.aload_n 0, 1) := by decide +kernel
theorem dX11_time_222 : decode cX11_time 222 = .ok (.getfield 140, 3) := by decide +kernel
theorem dX11_time_225 : decode cX11_time 225 = .ok (.iload 5, 2) := by decide +kernel
theorem dX11_time_227 : decode cX11_time 227 = .ok (.iconst 0, 1) := by decide +kernel
theorem dX11_time_228 : decode cX11_time 228 = .ok (.bastore, 1) := by decide +kernel
theorem dX11_time_229 : decode cX11_time 229 = .ok (.iinc 3 (-1), 3) := by decide +kernel
theorem dX11_time_232 : decode cX11_time 232 = .ok (.iinc 5 1, 3) := by decide +kernel
theorem dX11_time_235 : decode cX11_time 235 = .ok (.goto (-48), 3) := by decide +kernel
theorem dX11_time_238 : decode cX11_time 238 = .ok (.goto (-92), 3) := by decide +kernel
theorem dX11_time_241 : decode cX11_time 241 = .ok (.iload 4, 2) := by decide +kernel
theorem dX11_time_243 : decode cX11_time 243 = .ok (.ireturn, 1) := by decide +kernel
theorem dX11_deadBy_0 : decode cX11_deadBy 0 = .ok (.aload_n 0, 1) := by decide +kernel
theorem dX11_deadBy_1 : decode cX11_deadBy 1 = .ok (.getfield 125, 3) := by decide +kernel
theorem dX11_deadBy_4 : decode cX11_deadBy 4 = .ok (.iconst 0, 1) := by decide +kernel
theorem dX11_deadBy_5 : decode cX11_deadBy 5 = .ok (.aload_n 0, 1) := by decide +kernel
theorem dX11_deadBy_6 : decode cX11_deadBy 6 = .ok (.getfield 131, 3) := by decide +kernel
theorem dX11_deadBy_9 : decode cX11_deadBy 9 = .ok (.iconst 0, 1) := by decide +kernel
theorem dX11_deadBy_10 : decode cX11_deadBy 10 = .ok (.invokestatic 418, 3) := by decide +kernel
theorem dX11_deadBy_13 : decode cX11_deadBy 13 = .ok (.aload_n 0, 1) := by decide +kernel
theorem dX11_deadBy_14 : decode cX11_deadBy 14 = .ok (.iload_n 1, 1) := by decide +kernel
theorem dX11_deadBy_15 : decode cX11_deadBy 15 = .ok (.invokevirtual 409, 3) := by decide +kernel
theorem dX11_deadBy_18 : decode cX11_deadBy 18 = .ok (.pop, 1) := by decide +kernel
theorem dX11_deadBy_19 : decode cX11_deadBy 19 = .ok (.iload_n 2, 1) := by decide +kernel
theorem dX11_deadBy_20 : decode cX11_deadBy 20 = .ok (.ifCond .lt 9, 3) := by decide +kernel
theorem dX11_deadBy_23 : decode cX11_deadBy 23 = .ok (.aload_n 0, 1) := by decide +kernel
theorem dX11_deadBy_24 : decode cX11_deadBy 24 = .ok (.iload_n 2, 1) := by decide +kernel
theorem dX11_deadBy_25 : decode cX11_deadBy 25 = .ok (.invokevirtual 409, 3) := by decide +kernel
theorem dX11_deadBy_28 : decode cX11_deadBy 28 = .ok (.pop, 1) := by decide +kernel
theorem dX11_deadBy_29 : decode cX11_deadBy 29 = .ok (.aload_n 0, 1) := by decide +kernel
theorem dX11_deadBy_30 : decode cX11_deadBy 30 = .ok (.invokevirtual 428, 3) := by decide +kernel
theorem dX11_deadBy_33 : decode cX11_deadBy 33 = .ok (.istore_n 3, 1) := by decide +kernel
theorem dX11_deadBy_34 : decode cX11_deadBy 34 = .ok (.aload_n 0, 1) := by decide +kernel
theorem dX11_deadBy_35 : decode cX11_deadBy 35 = .ok (.getfield 131, 3) := by decide +kernel
theorem dX11_deadBy_38 : decode cX11_deadBy 38 = .ok (.iconst 0, 1) := by decide +kernel
theorem dX11_deadBy_39 : decode cX11_deadBy 39 = .ok (.aload_n 0, 1) := by decide +kernel
theorem dX11_deadBy_40 : decode cX11_deadBy 40 = .ok (.getfield 125, 3) := by decide +kernel
theorem dX11_deadBy_43 : decode cX11_deadBy 43 = .ok (.iconst 0, 1) := by decide +kernel
theorem dX11_deadBy_44 : decode cX11_deadBy 44 = .ok (.invokestatic 418, 3) := by decide +kernel
theorem dX11_deadBy_47 : decode cX11_deadBy 47 = .ok (.iload_n 3, 1) := by decide +kernel
theorem dX11_deadBy_48 : decode cX11_deadBy 48 = .ok (.ireturn, 1) := by decide +kernel
theorem dX11_bears_0 : decode cX11_bears 0 = .ok (.aload_n 0, 1) := by decide +kernel
theorem dX11_bears_1 : decode cX11_bears 1 = .ok (.iconst 0, 1) := by decide +kernel
theorem dX11_bears_2 : decode cX11_bears 2 = .ok (.putfield 152, 3) := by decide +kernel
theorem dX11_bears_5 : decode cX11_bears 5 = .ok (.aload_n 0, 1) := by decide +kernel
theorem dX11_bears_6 : decode cX11_bears 6 = .ok (.iload_n 1, 1) := by decide +kernel
theorem dX11_bears_7 : decode cX11_bears 7 = .ok (.invokevirtual 385, 3) := by decide +kernel
theorem dX11_bears_10 : decode cX11_bears 10 = .ok (.ifCond .eq 28, 3) := by decide +kernel
theorem dX11_bears_13 : decode cX11_bears 13 = .ok (.aload_n 0, 1) := by decide +kernel
theorem dX11_bears_14 : decode cX11_bears 14 = .ok (.iload_n 1, 1) := by decide +kernel
theorem dX11_bears_15 : decode cX11_bears 15 = .ok (.invokevirtual 373, 3) := by decide +kernel
theorem dX11_bears_18 : decode cX11_bears 18 = .ok (.ifCond .eq 20, 3) := by decide +kernel
theorem dX11_bears_21 : decode cX11_bears 21 = .ok (.aload_n 0, 1) := by decide +kernel
theorem dX11_bears_22 : decode cX11_bears 22 = .ok (.iload_n 1, 1) := by decide +kernel
theorem dX11_bears_23 : decode cX11_bears 23 = .ok (.iconst (-1), 1) := by decide +kernel
theorem dX11_bears_24 : decode cX11_bears 24 = .ok (.invokevirtual 466, 3) := by decide +kernel
theorem dX11_bears_27 : decode cX11_bears 27 = .ok (.aload_n 0, 1) := by decide +kernel
theorem dX11_bears_28 : decode cX11_bears 28 = .ok (.invokevirtual 428, 3) := by decide +kernel
theorem dX11_bears_31 : decode cX11_bears 31 = .ok (.if_icmp .ne 7, 3) := by decide +kernel
theorem dX11_bears_34 : decode cX11_bears 34 = .ok (.iconst 1, 1) := by decide +kernel
theorem dX11_bears_35 : decode cX11_bears 35 = .ok (.goto 4, 3) := by decide +kernel
theorem dX11_bears_38 : decode cX11_bears 38 = .ok (.iconst 0, 1) := by decide +kernel
theorem dX11_bears_39 : decode cX11_bears 39 = .ok (.ireturn, 1) := by decide +kernel
theorem dX11_risk_0 : decode cX11_risk 0 = .ok (.aload_n 0, 1) := by decide +kernel
theorem dX11_risk_1 : decode cX11_risk 1 = .ok (.iconst 0, 1) := by decide +kernel
theorem dX11_risk_2 : decode cX11_risk 2 = .ok (.putfield 152, 3) := by decide +kernel
theorem dX11_risk_5 : decode cX11_risk 5 = .ok (.iconst 0, 1) := by decide +kernel
theorem dX11_risk_6 : decode cX11_risk 6 = .ok (.istore_n 1, 1) := by decide +kernel
theorem dX11_risk_7 : decode cX11_risk 7 = .ok (.iconst 0, 1) := by decide +kernel
theorem dX11_risk_8 : decode cX11_risk 8 = .ok (.istore_n 2, 1) := by decide +kernel
theorem dX11_risk_9 : decode cX11_risk 9 = .ok (.iload_n 2, 1) := by decide +kernel
theorem dX11_risk_10 : decode cX11_risk 10 = .ok (.aload_n 0, 1) := by decide +kernel
theorem dX11_risk_11 : decode cX11_risk 11 = .ok (.getfield 13, 3) := by decide +kernel
theorem dX11_risk_14 : decode cX11_risk 14 = .ok (.iconst 0, 1) := by decide +kernel
theorem dX11_risk_15 : decode cX11_risk 15 = .ok (.iaload, 1) := by decide +kernel
theorem dX11_risk_16 : decode cX11_risk 16 = .ok (.if_icmp .ge 59, 3) := by decide +kernel
theorem dX11_risk_19 : decode cX11_risk 19 = .ok (.iconst 0, 1) := by decide +kernel
theorem dX11_risk_20 : decode cX11_risk 20 = .ok (.istore_n 3, 1) := by decide +kernel
theorem dX11_risk_21 : decode cX11_risk 21 = .ok (.iload_n 3, 1) := by decide +kernel
theorem dX11_risk_22 : decode cX11_risk 22 = .ok (.iload_n 2, 1) := by decide +kernel
theorem dX11_risk_23 : decode cX11_risk 23 = .ok (.if_icmp .ge 46, 3) := by decide +kernel
theorem dX11_risk_26 : decode cX11_risk 26 = .ok (.iload_n 1, 1) := by decide +kernel
theorem dX11_risk_27 : decode cX11_risk 27 = .ok (.aload_n 0, 1) := by decide +kernel
theorem dX11_risk_28 : decode cX11_risk 28 = .ok (.iload_n 2, 1) := by decide +kernel
theorem dX11_risk_29 : decode cX11_risk 29 = .ok (.invokevirtual 373, 3) := by decide +kernel
theorem dX11_risk_32 : decode cX11_risk 32 = .ok (.ifCond .eq 28, 3) := by decide +kernel
theorem dX11_risk_35 : decode cX11_risk 35 = .ok (.aload_n 0, 1) := by decide +kernel
theorem dX11_risk_36 : decode cX11_risk 36 = .ok (.iload_n 3, 1) := by decide +kernel
theorem dX11_risk_37 : decode cX11_risk 37 = .ok (.invokevirtual 373, 3) := by decide +kernel
theorem dX11_risk_40 : decode cX11_risk 40 = .ok (.ifCond .eq 20, 3) := by decide +kernel
theorem dX11_risk_43 : decode cX11_risk 43 = .ok (.aload_n 0, 1) := by decide +kernel
theorem dX11_risk_44 : decode cX11_risk 44 = .ok (.iload_n 2, 1) := by decide +kernel
theorem dX11_risk_45 : decode cX11_risk 45 = .ok (.iload_n 3, 1) := by decide +kernel
theorem dX11_risk_46 : decode cX11_risk 46 = .ok (.invokevirtual 466, 3) := by decide +kernel
theorem dX11_risk_49 : decode cX11_risk 49 = .ok (.aload_n 0, 1) := by decide +kernel
theorem dX11_risk_50 : decode cX11_risk 50 = .ok (.invokevirtual 428, 3) := by decide +kernel
theorem dX11_risk_53 : decode cX11_risk 53 = .ok (.if_icmp .le 7, 3) := by decide +kernel
theorem dX11_risk_56 : decode cX11_risk 56 = .ok (.iconst 1, 1) := by decide +kernel
theorem dX11_risk_57 : decode cX11_risk 57 = .ok (.goto 4, 3) := by decide +kernel
theorem dX11_risk_60 : decode cX11_risk 60 = .ok (.iconst 0, 1) := by decide +kernel
theorem dX11_risk_61 : decode cX11_risk 61 = .ok (.iadd, 1) := by decide +kernel
theorem dX11_risk_62 : decode cX11_risk 62 = .ok (.istore_n 1, 1) := by decide +kernel
theorem dX11_risk_63 : decode cX11_risk 63 = .ok (.iinc 3 1, 3) := by decide +kernel
theorem dX11_risk_66 : decode cX11_risk 66 = .ok (.goto (-45), 3) := by decide +kernel
theorem dX11_risk_69 : decode cX11_risk 69 = .ok (.iinc 2 1, 3) := by decide +kernel
theorem dX11_risk_72 : decode cX11_risk 72 = .ok (.goto (-63), 3) := by decide +kernel
theorem dX11_risk_75 : decode cX11_risk 75 = .ok (.iload_n 1, 1) := by decide +kernel
theorem dX11_risk_76 : decode cX11_risk 76 = .ok (.ireturn, 1) := by decide +kernel
theorem dX11_grow_0 : decode cX11_grow 0 = .ok (.aload_n 0, 1) := by decide +kernel
theorem dX11_grow_1 : decode cX11_grow 1 = .ok (.iconst 0, 1) := by decide +kernel
theorem dX11_grow_2 : decode cX11_grow 2 = .ok (.putfield 152, 3) := by decide +kernel
theorem dX11_grow_5 : decode cX11_grow 5 = .ok (.aload_n 0, 1) := by decide +kernel
theorem dX11_grow_6 : decode cX11_grow 6 = .ok (.getfield 13, 3) := by decide +kernel
theorem dX11_grow_9 : decode cX11_grow 9 = .ok (.iconst 0, 1) := by decide +kernel
theorem dX11_grow_10 : decode cX11_grow 10 = .ok (.iaload, 1) := by decide +kernel
theorem dX11_grow_11 : decode cX11_grow 11 = .ok (.iload_n 1, 1) := by decide +kernel
theorem dX11_grow_12 : decode cX11_grow 12 = .ok (.iadd, 1) := by decide +kernel
theorem dX11_grow_13 : decode cX11_grow 13 = .ok (.istore_n 3, 1) := by decide +kernel
theorem dX11_grow_14 : decode cX11_grow 14 = .ok (.aload_n 0, 1) := by decide +kernel
theorem dX11_grow_15 : decode cX11_grow 15 = .ok (.getfield 13, 3) := by decide +kernel
theorem dX11_grow_18 : decode cX11_grow 18 = .ok (.iconst 0, 1) := by decide +kernel
theorem dX11_grow_19 : decode cX11_grow 19 = .ok (.iaload, 1) := by decide +kernel
theorem dX11_grow_20 : decode cX11_grow 20 = .ok (.ifCond .eq 38, 3) := by decide +kernel
theorem dX11_grow_23 : decode cX11_grow 23 = .ok (.iload_n 1, 1) := by decide +kernel
theorem dX11_grow_24 : decode cX11_grow 24 = .ok (.iconst 1, 1) := by decide +kernel
theorem dX11_grow_25 : decode cX11_grow 25 = .ok (.iconst 3, 1) := by decide +kernel
theorem dX11_grow_26 : decode cX11_grow 26 = .ok (.invokestatic 239, 3) := by decide +kernel
theorem dX11_grow_29 : decode cX11_grow 29 = .ok (.ifCond .eq 29, 3) := by decide +kernel
theorem dX11_grow_32 : decode cX11_grow 32 = .ok (.iload_n 2, 1) := by decide +kernel
theorem dX11_grow_33 : decode cX11_grow 33 = .ok (.iconst 0, 1) := by decide +kernel
theorem dX11_grow_34 : decode cX11_grow 34 = .ok (.iconst 1, 1) := by decide +kernel
theorem dX11_grow_35 : decode cX11_grow 35 = .ok (.invokestatic 239, 3) := by decide +kernel
theorem dX11_grow_38 : decode cX11_grow 38 = .ok (.ifCond .eq 20, 3) := by decide +kernel
theorem dX11_grow_41 : decode cX11_grow 41 = .ok (.iload_n 3, 1) := by decide +kernel
theorem dX11_grow_42 : decode cX11_grow 42 = .ok (.bipush 13, 2) := by decide +kernel
theorem dX11_grow_44 : decode cX11_grow 44 = .ok (.if_icmp .gt 14, 3) := by decide +kernel
theorem dX11_grow_47 : decode cX11_grow 47 = .ok (.aload_n 0, 1) := by decide +kernel
theorem dX11_grow_48 : decode cX11_grow 48 = .ok (.iconst 0, 1) := by decide +kernel
theorem dX11_grow_49 : decode cX11_grow 49 = .ok (.iload_n 3, 1) := by decide +kernel
theorem dX11_grow_50 : decode cX11_grow 50 = .ok (.invokevirtual 276, 3) := by decide +kernel
theorem dX11_grow_53 : decode cX11_grow 53 = .ok (.bipush 40, 2) := by decide +kernel
theorem dX11_grow_55 : decode cX11_grow 55 = .ok (.if_icmp .le 5, 3) := by decide +kernel
theorem dX11_grow_58 : decode cX11_grow 58 = .ok (.iconst (-1), 1) := by decide +kernel
theorem dX11_grow_59 : decode cX11_grow 59 = .ok (.ireturn, 1) := by decide +kernel
theorem dX11_grow_60 : decode cX11_grow 60 = .ok (.iload_n 2, 1) := by decide +kernel
theorem dX11_grow_61 : decode cX11_grow 61 = .ok (.iconst 1, 1) := by decide +kernel
theorem dX11_grow_62 : decode cX11_grow 62 = .ok (.if_icmp .ne 45, 3) := by decide +kernel
theorem dX11_grow_65 : decode cX11_grow 65 = .ok (.iconst 0, 1) := by decide +kernel
theorem dX11_grow_66 : decode cX11_grow 66 = .ok (.istore 4, 2) := by decide +kernel
theorem dX11_grow_68 : decode cX11_grow 68 = .ok (.iconst 0, 1) := by decide +kernel
theorem dX11_grow_69 : decode cX11_grow 69 = .ok (.istore 5, 2) := by decide +kernel
theorem dX11_grow_71 : decode cX11_grow 71 = .ok (.iload 5, 2) := by decide +kernel
theorem dX11_grow_73 : decode cX11_grow 73 = .ok (.aload_n 0, 1) := by decide +kernel
theorem dX11_grow_74 : decode cX11_grow 74 = .ok (.getfield 71, 3) := by decide +kernel
theorem dX11_grow_77 : decode cX11_grow 77 = .ok (.iconst 0, 1) := by decide +kernel
theorem dX11_grow_78 : decode cX11_grow 78 = .ok (.iaload, 1) := by decide +kernel
theorem dX11_grow_79 : decode cX11_grow 79 = .ok (.if_icmp .ge 21, 3) := by decide +kernel
theorem dX11_grow_82 : decode cX11_grow 82 = .ok (.iload 4, 2) := by decide +kernel
theorem dX11_grow_84 : decode cX11_grow 84 = .ok (.aload_n 0, 1) := by decide +kernel
theorem dX11_grow_85 : decode cX11_grow 85 = .ok (.getfield 74, 3) := by decide +kernel
theorem dX11_grow_88 : decode cX11_grow 88 = .ok (.iload 5, 2) := by decide +kernel
theorem dX11_grow_90 : decode cX11_grow 90 = .ok (.iaload, 1) := by decide +kernel
theorem dX11_grow_91 : decode cX11_grow 91 = .ok (.iadd, 1) := by decide +kernel
theorem dX11_grow_92 : decode cX11_grow 92 = .ok (.istore 4, 2) := by decide +kernel
theorem dX11_grow_94 : decode cX11_grow 94 = .ok (.iinc 5 1, 3) := by decide +kernel
theorem dX11_grow_97 : decode cX11_grow 97 = .ok (.goto (-26), 3) := by decide +kernel
theorem dX11_grow_100 : decode cX11_grow 100 = .ok (.iload 4, 2) := by decide +kernel
theorem dX11_grow_102 : decode cX11_grow 102 = .ok (.iload_n 1, 1) := by decide +kernel
theorem dX11_grow_103 : decode cX11_grow 103 = .ok (.imul, 1) := by decide +kernel
theorem dX11_grow_104 : decode cX11_grow 104 = .ok (.iload_n 3, 1) := by decide +kernel
theorem dX11_grow_105 : decode cX11_grow 105 = .ok (.idiv, 1) := by decide +kernel
theorem dX11_grow_106 : decode cX11_grow 106 = .ok (.ireturn, 1) := by decide +kernel
theorem dX11_grow_107 : decode cX11_grow 107 = .ok (.aload_n 0, 1) := by decide +kernel
theorem dX11_grow_108 : decode cX11_grow 108 = .ok (.iconst 1, 1) := by decide +kernel
theorem dX11_grow_109 : decode cX11_grow 109 = .ok (.iload_n 3, 1) := by decide +kernel
theorem dX11_grow_110 : decode cX11_grow 110 = .ok (.invokevirtual 345, 3) := by decide +kernel
theorem dX11_grow_113 : decode cX11_grow 113 = .ok (.iconst 0, 1) := by decide +kernel
theorem dX11_grow_114 : decode cX11_grow 114 = .ok (.istore 4, 2) := by decide +kernel
theorem dX11_grow_116 : decode cX11_grow 116 = .ok (.iconst 0, 1) := by decide +kernel
theorem dX11_grow_117 : decode cX11_grow 117 = .ok (.istore 5, 2) := by decide +kernel
theorem dX11_grow_119 : decode cX11_grow 119 = .ok (.iload 5, 2) := by decide +kernel
theorem dX11_grow_121 : decode cX11_grow 121 = .ok (.aload_n 0, 1) := by decide +kernel
theorem dX11_grow_122 : decode cX11_grow 122 = .ok (.getfield 98, 3) := by decide +kernel
theorem dX11_grow_125 : decode cX11_grow 125 = .ok (.iconst 0, 1) := by decide +kernel
theorem dX11_grow_126 : decode cX11_grow 126 = .ok (.iaload, 1) := by decide +kernel
theorem dX11_grow_127 : decode cX11_grow 127 = .ok (.aload_n 0, 1) := by decide +kernel
theorem dX11_grow_128 : decode cX11_grow 128 = .ok (.getfield 98, 3) := by decide +kernel
theorem dX11_grow_131 : decode cX11_grow 131 = .ok (.iconst 1, 1) := by decide +kernel
theorem dX11_grow_132 : decode cX11_grow 132 = .ok (.iaload, 1) := by decide +kernel
theorem dX11_grow_133 : decode cX11_grow 133 = .ok (.invokestatic 439, 3) := by decide +kernel
theorem dX11_grow_136 : decode cX11_grow 136 = .ok (.if_icmp .ge 81, 3) := by decide +kernel
theorem dX11_grow_139 : decode cX11_grow 139 = .ok (.iload 4, 2) := by decide +kernel
theorem dX11_grow_141 : decode cX11_grow 141 = .ok (.aload_n 0, 1) := by decide +kernel
theorem dX11_grow_142 : decode cX11_grow 142 = .ok (.getfield 89, 3) := by decide +kernel
theorem dX11_grow_145 : decode cX11_grow 145 = .ok (.aload_n 0, 1) := by decide +kernel
theorem dX11_grow_146 : decode cX11_grow 146 = .ok (.getfield 95, 3) := by decide +kernel
theorem dX11_grow_149 : decode cX11_grow 149 = .ok (.iload 5, 2) := by decide +kernel
theorem dX11_grow_151 : decode cX11_grow 151 = .ok (.iaload, 1) := by decide +kernel
theorem dX11_grow_152 : decode cX11_grow 152 = .ok (.iaload, 1) := by decide +kernel
theorem dX11_grow_153 : decode cX11_grow 153 = .ok (.aload_n 0, 1) := by decide +kernel
theorem dX11_grow_154 : decode cX11_grow 154 = .ok (.getfield 89, 3) := by decide +kernel
theorem dX11_grow_157 : decode cX11_grow 157 = .ok (.aload_n 0, 1) := by decide +kernel
theorem dX11_grow_158 : decode cX11_grow 158 = .ok (.getfield 95, 3) := by decide +kernel
theorem dX11_grow_161 : decode cX11_grow 161 = .ok (.sipush 160, 3) := by decide +kernel
theorem dX11_grow_164 : decode cX11_grow 164 = .ok (.iload 5, 2) := by decide +kernel
theorem dX11_grow_166 : decode cX11_grow 166 = .ok (.iadd, 1) := by decide +kernel
theorem dX11_grow_167 : decode cX11_grow 167 = .ok (.iaload, 1) := by decide +kernel
theorem dX11_grow_168 : decode cX11_grow 168 = .ok (.iaload, 1) := by decide +kernel
theorem dX11_grow_169 : decode cX11_grow 169 = .ok (.if_icmp .ne 34, 3) := by decide +kernel
theorem dX11_grow_172 : decode cX11_grow 172 = .ok (.aload_n 0, 1) := by decide +kernel
theorem dX11_grow_173 : decode cX11_grow 173 = .ok (.getfield 92, 3) := by decide +kernel
theorem dX11_grow_176 : decode cX11_grow 176 = .ok (.aload_n 0, 1) := by decide +kernel
theorem dX11_grow_177 : decode cX11_grow 177 = .ok (.getfield 95, 3) := by decide +kernel
theorem dX11_grow_180 : decode cX11_grow 180 = .ok (.iload 5, 2) := by decide +kernel
theorem dX11_grow_182 : decode cX11_grow 182 = .ok (.iaload, 1) := by decide +kernel
theorem dX11_grow_183 : decode cX11_grow 183 = .ok (.iaload, 1) := by decide +kernel
theorem dX11_grow_184 : decode cX11_grow 184 = .ok (.aload_n 0, 1) := by decide +kernel
theorem dX11_grow_185 : decode cX11_grow 185 = .ok (.getfield 92, 3) := by decide +kernel
theorem dX11_grow_188 : decode cX11_grow 188 = .ok (.aload_n 0, 1) := by decide +kernel
theorem dX11_grow_189 : decode cX11_grow 189 = .ok (.getfield 95, 3) := by decide +kernel
theorem dX11_grow_192 : decode cX11_grow 192 = .ok (.sipush 160, 3) := by decide +kernel
theorem dX11_grow_195 : decode cX11_grow 195 = .ok (.iload 5, 2) := by decide +kernel
theorem dX11_grow_197 : decode cX11_grow 197 = .ok (.iadd, 1) := by decide +kernel
theorem dX11_grow_198 : decode cX11_grow 198 = .ok (.iaload, 1) := by decide +kernel
theorem dX11_grow_199 : decode cX11_grow 199 = .ok (.iaload, 1) := by decide +kernel
theorem dX11_grow_200 : decode cX11_grow 200 = .ok (.if_icmp .eq 7, 3) := by decide +kernel
theorem dX11_grow_203 : decode cX11_grow 203 = .ok (.iconst 1, 1) := by decide +kernel
theorem dX11_grow_204 : decode cX11_grow 204 = .ok (.goto 4, 3) := by decide +kernel
theorem dX11_grow_207 : decode cX11_grow 207 = .ok (.iconst 0, 1) := by decide +kernel
theorem dX11_grow_208 : decode cX11_grow 208 = .ok (.iadd, 1) := by decide +kernel
theorem dX11_grow_209 : decode cX11_grow 209 = .ok (.istore 4, 2) := by decide +kernel
theorem dX11_grow_211 : decode cX11_grow 211 = .ok (.iinc 5 1, 3) := by decide +kernel
theorem dX11_grow_214 : decode cX11_grow 214 = .ok (.goto (-95), 3) := by decide +kernel
theorem dX11_grow_217 : decode cX11_grow 217 = .ok (.iload 4, 2) := by decide +kernel
theorem dX11_grow_219 : decode cX11_grow 219 = .ok (.ireturn, 1) := by decide +kernel
theorem dX11_lost_0 : decode cX11_lost 0 = .ok (.aload_n 0, 1) := by decide +kernel
theorem dX11_lost_1 : decode cX11_lost 1 = .ok (.iconst 0, 1) := by decide +kernel
theorem dX11_lost_2 : decode cX11_lost 2 = .ok (.putfield 152, 3) := by decide +kernel
theorem dX11_lost_5 : decode cX11_lost 5 = .ok (.iconst 0, 1) := by decide +kernel
theorem dX11_lost_6 : decode cX11_lost 6 = .ok (.istore_n 2, 1) := by decide +kernel
theorem dX11_lost_7 : decode cX11_lost 7 = .ok (.iconst 0, 1) := by decide +kernel
theorem dX11_lost_8 : decode cX11_lost 8 = .ok (.istore_n 3, 1) := by decide +kernel
theorem dX11_lost_9 : decode cX11_lost 9 = .ok (.iload_n 3, 1) := by decide +kernel
theorem dX11_lost_10 : decode cX11_lost 10 = .ok (.aload_n 0, 1) := by decide +kernel
theorem dX11_lost_11 : decode cX11_lost 11 = .ok (.getfield 71, 3) := by decide +kernel
theorem dX11_lost_14 : decode cX11_lost 14 = .ok (.iconst 0, 1) := by decide +kernel
theorem dX11_lost_15 : decode cX11_lost 15 = .ok (.iaload, 1) := by decide +kernel
theorem dX11_lost_16 : decode cX11_lost 16 = .ok (.if_icmp .ge 70, 3) := by decide +kernel
theorem dX11_lost_19 : decode cX11_lost 19 = .ok (.iload_n 1, 1) := by decide +kernel
theorem dX11_lost_20 : decode cX11_lost 20 = .ok (.ifCond .lt 66, 3) := by decide +kernel
theorem dX11_lost_23 : decode cX11_lost 23 = .ok (.iconst 0, 1) := by decide +kernel
theorem dX11_lost_24 : decode cX11_lost 24 = .ok (.istore 4, 2) := by decide +kernel
theorem dX11_lost_26 : decode cX11_lost 26 = .ok (.iload 4, 2) := by decide +kernel
theorem dX11_lost_28 : decode cX11_lost 28 = .ok (.aload_n 0, 1) := by decide +kernel
theorem dX11_lost_29 : decode cX11_lost 29 = .ok (.getfield 74, 3) := by decide +kernel
theorem dX11_lost_32 : decode cX11_lost 32 = .ok (.iload_n 3, 1) := by decide +kernel
theorem dX11_lost_33 : decode cX11_lost 33 = .ok (.iaload, 1) := by decide +kernel
theorem dX11_lost_34 : decode cX11_lost 34 = .ok (.if_icmp .ge 46, 3) := by decide +kernel
theorem dX11_lost_37 : decode cX11_lost 37 = .ok (.aload_n 0, 1) := by decide +kernel
theorem dX11_lost_38 : decode cX11_lost 38 = .ok (.getfield 125, 3) := by decide +kernel
theorem dX11_lost_41 : decode cX11_lost 41 = .ok (.bipush 14, 2) := by decide +kernel
theorem dX11_lost_43 : decode cX11_lost 43 = .ok (.iconst 5, 1) := by decide +kernel
theorem dX11_lost_44 : decode cX11_lost 44 = .ok (.iload_n 3, 1) := by decide +kernel
theorem dX11_lost_45 : decode cX11_lost 45 = .ok (.imul, 1) := by decide +kernel
theorem dX11_lost_46 : decode cX11_lost 46 = .ok (.iadd, 1) := by decide +kernel
theorem dX11_lost_47 : decode cX11_lost 47 = .ok (.iload 4, 2) := by decide +kernel
theorem dX11_lost_49 : decode cX11_lost 49 = .ok (.iadd, 1) := by decide +kernel
theorem dX11_lost_50 : decode cX11_lost 50 = .ok (.iaload, 1) := by decide +kernel
theorem dX11_lost_51 : decode cX11_lost 51 = .ok (.iconst 2, 1) := by decide +kernel
theorem dX11_lost_52 : decode cX11_lost 52 = .ok (.if_icmp .eq 6, 3) := by decide +kernel
theorem dX11_lost_55 : decode cX11_lost 55 = .ok (.goto 19, 3) := by decide +kernel
theorem dX11_lost_58 : decode cX11_lost 58 = .ok (.iload_n 2, 1) := by decide +kernel
theorem dX11_lost_59 : decode cX11_lost 59 = .ok (.iload_n 1, 1) := by decide +kernel
theorem dX11_lost_60 : decode cX11_lost 60 = .ok (.if_icmp .ne 11, 3) := by decide +kernel
theorem dX11_lost_63 : decode cX11_lost 63 = .ok (.bipush 8, 2) := by decide +kernel
theorem dX11_lost_65 : decode cX11_lost 65 = .ok (.iload_n 3, 1) := by decide +kernel
theorem dX11_lost_66 : decode cX11_lost 66 = .ok (.imul, 1) := by decide +kernel
theorem dX11_lost_67 : decode cX11_lost 67 = .ok (.iload 4, 2) := by decide +kernel
theorem dX11_lost_69 : decode cX11_lost 69 = .ok (.iadd, 1) := by decide +kernel
theorem dX11_lost_70 : decode cX11_lost 70 = .ok (.ireturn, 1) := by decide +kernel
theorem dX11_lost_71 : decode cX11_lost 71 = .ok (.iinc 2 1, 3) := by decide +kernel
theorem dX11_lost_74 : decode cX11_lost 74 = .ok (.iinc 4 1, 3) := by decide +kernel
theorem dX11_lost_77 : decode cX11_lost 77 = .ok (.goto (-51), 3) := by decide +kernel
theorem dX11_lost_80 : decode cX11_lost 80 = .ok (.iinc 3 1, 3) := by decide +kernel
theorem dX11_lost_83 : decode cX11_lost 83 = .ok (.goto (-74), 3) := by decide +kernel
theorem dX11_lost_86 : decode cX11_lost 86 = .ok (.aload_n 0, 1) := by decide +kernel
theorem dX11_lost_87 : decode cX11_lost 87 = .ok (.iconst 1, 1) := by decide +kernel
theorem dX11_lost_88 : decode cX11_lost 88 = .ok (.putfield 152, 3) := by decide +kernel
theorem dX11_lost_91 : decode cX11_lost 91 = .ok (.iconst 0, 1) := by decide +kernel
theorem dX11_lost_92 : decode cX11_lost 92 = .ok (.ireturn, 1) := by decide +kernel
theorem dX11_laysDearer_0 : decode cX11_laysDearer 0 = .ok (.iconst 0, 1) := by decide +kernel
theorem dX11_laysDearer_1 : decode cX11_laysDearer 1 = .ok (.istore_n 1, 1) := by decide +kernel
theorem dX11_laysDearer_2 : decode cX11_laysDearer 2 = .ok (.iload_n 1, 1) := by decide +kernel
theorem dX11_laysDearer_3 : decode cX11_laysDearer 3 = .ok (.aload_n 0, 1) := by decide +kernel
theorem dX11_laysDearer_4 : decode cX11_laysDearer 4 = .ok (.getfield 13, 3) := by decide +kernel
theorem dX11_laysDearer_7 : decode cX11_laysDearer 7 = .ok (.iconst 0, 1) := by decide +kernel
theorem dX11_laysDearer_8 : decode cX11_laysDearer 8 = .ok (.iaload, 1) := by decide +kernel
theorem dX11_laysDearer_9 : decode cX11_laysDearer 9 = .ok (.if_icmp .ge 108, 3) := by decide +kernel
theorem dX11_laysDearer_12 : decode cX11_laysDearer 12 = .ok (.aload_n 0, 1) := by decide +kernel
theorem dX11_laysDearer_13 : decode cX11_laysDearer 13 = .ok (.iload_n 1, 1) := by decide +kernel
theorem dX11_laysDearer_14 : decode cX11_laysDearer 14 = .ok (.invokevirtual 373, 3) := by decide +kernel
theorem dX11_laysDearer_17 : decode cX11_laysDearer 17 = .ok (.ifCond .ne 6, 3) := by decide +kernel
theorem dX11_laysDearer_20 : decode cX11_laysDearer 20 = .ok (.goto 91, 3) := by decide +kernel
theorem dX11_laysDearer_23 : decode cX11_laysDearer 23 = .ok (.aload_n 0, 1) := by decide +kernel
theorem dX11_laysDearer_24 : decode cX11_laysDearer 24 = .ok (.getfield 125, 3) := by decide +kernel
theorem dX11_laysDearer_27 : decode cX11_laysDearer 27 = .ok (.iconst 0, 1) := by decide +kernel
theorem dX11_laysDearer_28 : decode cX11_laysDearer 28 = .ok (.aload_n 0, 1) := by decide +kernel
theorem dX11_laysDearer_29 : decode cX11_laysDearer 29 = .ok (.getfield 131, 3) := by decide +kernel
theorem dX11_laysDearer_32 : decode cX11_laysDearer 32 = .ok (.iconst 0, 1) := by decide +kernel
theorem dX11_laysDearer_33 : decode cX11_laysDearer 33 = .ok (.invokestatic 418, 3) := by decide +kernel
theorem dX11_laysDearer_36 : decode cX11_laysDearer 36 = .ok (.aload_n 0, 1) := by decide +kernel
theorem dX11_laysDearer_37 : decode cX11_laysDearer 37 = .ok (.iload_n 1, 1) := by decide +kernel
theorem dX11_laysDearer_38 : decode cX11_laysDearer 38 = .ok (.invokevirtual 409, 3) := by decide +kernel
theorem dX11_laysDearer_41 : decode cX11_laysDearer 41 = .ok (.pop, 1) := by decide +kernel
theorem dX11_laysDearer_42 : decode cX11_laysDearer 42 = .ok (.iconst 0, 1) := by decide +kernel
theorem dX11_laysDearer_43 : decode cX11_laysDearer 43 = .ok (.istore_n 2, 1) := by decide +kernel
theorem dX11_laysDearer_44 : decode cX11_laysDearer 44 = .ok (.iload_n 2, 1) := by decide +kernel
theorem dX11_laysDearer_45 : decode cX11_laysDearer 45 = .ok (.aload_n 0, 1) := by decide +kernel
theorem dX11_laysDearer_46 : decode cX11_laysDearer 46 = .ok (.getfield 98, 3) := by decide +kernel
theorem dX11_laysDearer_49 : decode cX11_laysDearer 49 = .ok (.iconst 0, 1) := by decide +kernel
theorem dX11_laysDearer_50 : decode cX11_laysDearer 50 = .ok (.iaload, 1) := by decide +kernel
theorem dX11_laysDearer_51 : decode cX11_laysDearer 51 = .ok (.if_icmp .ge 47, 3) := by decide +kernel
theorem dX11_laysDearer_54 : decode cX11_laysDearer 54 = .ok (.aload_n 0, 1) := by decide +kernel
theorem dX11_laysDearer_55 : decode cX11_laysDearer 55 = .ok (.getfield 146, 3) := by decide +kernel
theorem dX11_laysDearer_58 : decode cX11_laysDearer 58 = .ok (.sipush 160, 3) := by decide +kernel
theorem dX11_laysDearer_61 : decode cX11_laysDearer 61 = .ok (.iload_n 1, 1) := by decide +kernel
theorem dX11_laysDearer_62 : decode cX11_laysDearer 62 = .ok (.imul, 1) := by decide +kernel
theorem dX11_laysDearer_63 : decode cX11_laysDearer 63 = .ok (.iload_n 2, 1) := by decide +kernel
theorem dX11_laysDearer_64 : decode cX11_laysDearer 64 = .ok (.iadd, 1) := by decide +kernel
theorem dX11_laysDearer_65 : decode cX11_laysDearer 65 = .ok (.aload_n 0, 1) := by decide +kernel
theorem dX11_laysDearer_66 : decode cX11_laysDearer 66 = .ok (.iload_n 2, 1) := by decide +kernel
theorem dX11_laysDearer_67 : decode cX11_laysDearer 67 = .ok (.invokevirtual 397, 3) := by decide +kernel
theorem dX11_laysDearer_70 : decode cX11_laysDearer 70 = .ok (.ifCond .eq 16, 3) := by decide +kernel
theorem dX11_laysDearer_73 : decode cX11_laysDearer 73 = .ok (.aload_n 0, 1) := by decide +kernel
theorem dX11_laysDearer_74 : decode cX11_laysDearer 74 = .ok (.iload_n 2, 1) := by decide +kernel
theorem dX11_laysDearer_75 : decode cX11_laysDearer 75 = .ok (.invokevirtual 457, 3) := by decide +kernel
theorem dX11_laysDearer_78 : decode cX11_laysDearer 78 = .ok (.aload_n 0, 1) := by decide +kernel
theorem dX11_laysDearer_79 : decode cX11_laysDearer 79 = .ok (.iload_n 2, 1) := by decide +kernel
theorem dX11_laysDearer_80 : decode cX11_laysDearer 80 = .ok (.invokevirtual 469, 3) := by decide +kernel
theorem dX11_laysDearer_83 : decode cX11_laysDearer 83 = .ok (.if_icmp .le 7, 3) := by decide +kernel
theorem dX11_laysDearer_86 : decode cX11_laysDearer 86 = .ok (.iconst 1, 1) := by decide +kernel
theorem dX11_laysDearer_87 : decode cX11_laysDearer 87 = .ok (.goto 4, 3) := by decide +kernel
theorem dX11_laysDearer_90 : decode cX11_laysDearer 90 = .ok (.iconst 0, 1) := by decide +kernel
theorem dX11_laysDearer_91 : decode cX11_laysDearer 91 = .ok (.bastore, 1) := by decide +kernel
theorem dX11_laysDearer_92 : decode cX11_laysDearer 92 = .ok (.iinc 2 1, 3) := by decide +kernel
theorem dX11_laysDearer_95 : decode cX11_laysDearer 95 = .ok (.goto (-51), 3) := by decide +kernel
theorem dX11_laysDearer_98 : decode cX11_laysDearer 98 = .ok (.aload_n 0, 1) := by decide +kernel
theorem dX11_laysDearer_99 : decode cX11_laysDearer 99 = .ok (.getfield 131, 3) := by decide +kernel
theorem dX11_laysDearer_102 : decode cX11_laysDearer 102 = .ok (.iconst 0, 1) := by decide +kernel
theorem dX11_laysDearer_103 : decode cX11_laysDearer 103 = .ok (.aload_n 0, 1) := by decide +kernel
theorem dX11_laysDearer_104 : decode cX11_laysDearer 104 = .ok (.getfield 125, 3) := by decide +kernel
theorem dX11_laysDearer_107 : decode cX11_laysDearer 107 = .ok (.iconst 0, 1) := by decide +kernel
theorem dX11_laysDearer_108 : decode cX11_laysDearer 108 = .ok (.invokestatic 418, 3) := by decide +kernel
theorem dX11_laysDearer_111 : decode cX11_laysDearer 111 = .ok (.iinc 1 1, 3) := by decide +kernel
theorem dX11_laysDearer_114 : decode cX11_laysDearer 114 = .ok (.goto (-112), 3) := by decide +kernel
theorem dX11_laysDearer_117 : decode cX11_laysDearer 117 = .ok (.return_, 1) := by decide +kernel
theorem dX11_costBefore_0 : decode cX11_costBefore 0 = .ok (.aload_n 0, 1) := by decide +kernel
theorem dX11_costBefore_1 : decode cX11_costBefore 1 = .ok (.getfield 131, 3) := by decide +kernel
theorem dX11_costBefore_4 : decode cX11_costBefore 4 = .ok (.bipush 14, 2) := by decide +kernel
theorem dX11_costBefore_6 : decode cX11_costBefore 6 = .ok (.aload_n 0, 1) := by decide +kernel
theorem dX11_costBefore_7 : decode cX11_costBefore 7 = .ok (.getfield 95, 3) := by decide +kernel
theorem dX11_costBefore_10 : decode cX11_costBefore 10 = .ok (.iload_n 1, 1) := by decide +kernel
theorem dX11_costBefore_11 : decode cX11_costBefore 11 = .ok (.iaload, 1) := by decide +kernel
theorem dX11_costBefore_12 : decode cX11_costBefore 12 = .ok (.iadd, 1) := by decide +kernel
theorem dX11_costBefore_13 : decode cX11_costBefore 13 = .ok (.iaload, 1) := by decide +kernel
theorem dX11_costBefore_14 : decode cX11_costBefore 14 = .ok (.iconst 2, 1) := by decide +kernel
theorem dX11_costBefore_15 : decode cX11_costBefore 15 = .ok (.if_icmp .eq 7, 3) := by decide +kernel
theorem dX11_costBefore_18 : decode cX11_costBefore 18 = .ok (.iconst 1, 1) := by decide +kernel
theorem dX11_costBefore_19 : decode cX11_costBefore 19 = .ok (.goto 18, 3) := by decide +kernel
theorem dX11_costBefore_22 : decode cX11_costBefore 22 = .ok (.aload_n 0, 1) := by decide +kernel
theorem dX11_costBefore_23 : decode cX11_costBefore 23 = .ok (.getfield 74, 3) := by decide +kernel
theorem dX11_costBefore_26 : decode cX11_costBefore 26 = .ok (.aload_n 0, 1) := by decide +kernel
theorem dX11_costBefore_27 : decode cX11_costBefore 27 = .ok (.getfield 95, 3) := by decide +kernel
theorem dX11_costBefore_30 : decode cX11_costBefore 30 = .ok (.iload_n 1, 1) := by decide +kernel
theorem dX11_costBefore_31 : decode cX11_costBefore 31 = .ok (.iaload, 1) := by decide +kernel
theorem dX11_costBefore_32 : decode cX11_costBefore 32 = .ok (.iconst 5, 1) := by decide +kernel
theorem dX11_costBefore_33 : decode cX11_costBefore 33 = .ok (.idiv, 1) := by decide +kernel
theorem dX11_costBefore_34 : decode cX11_costBefore 34 = .ok (.iaload, 1) := by decide +kernel
theorem dX11_costBefore_35 : decode cX11_costBefore 35 = .ok (.iconst 1, 1) := by decide +kernel
theorem dX11_costBefore_36 : decode cX11_costBefore 36 = .ok (.isub, 1) := by decide +kernel
theorem dX11_costBefore_37 : decode cX11_costBefore 37 = .ok (.ireturn, 1) := by decide +kernel
theorem dX11_see_0 : decode cX11_see 0 = .ok (.aload_n 0, 1) := by decide +kernel
theorem dX11_see_1 : decode cX11_see 1 = .ok (.iconst 0, 1) := by decide +kernel
theorem dX11_see_2 : decode cX11_see 2 = .ok (.putfield 152, 3) := by decide +kernel
theorem dX11_see_5 : decode cX11_see 5 = .ok (.aload_n 0, 1) := by decide +kernel
theorem dX11_see_6 : decode cX11_see 6 = .ok (.iload_n 1, 1) := by decide +kernel
theorem dX11_see_7 : decode cX11_see 7 = .ok (.invokevirtual 382, 3) := by decide +kernel
theorem dX11_see_10 : decode cX11_see 10 = .ok (.ifCond .eq 14, 3) := by decide +kernel
theorem dX11_see_13 : decode cX11_see 13 = .ok (.aload_n 0, 1) := by decide +kernel
theorem dX11_see_14 : decode cX11_see 14 = .ok (.getfield 116, 3) := by decide +kernel
theorem dX11_see_17 : decode cX11_see 17 = .ok (.iconst 0, 1) := by decide +kernel
theorem dX11_see_18 : decode cX11_see 18 = .ok (.iaload, 1) := by decide +kernel
theorem dX11_see_19 : decode cX11_see 19 = .ok (.bipush 8, 2) := by decide +kernel
theorem dX11_see_21 : decode cX11_see 21 = .ok (.if_icmp .ne 5, 3) := by decide +kernel
theorem dX11_see_24 : decode cX11_see 24 = .ok (.iconst 0, 1) := by decide +kernel
theorem dX11_see_25 : decode cX11_see 25 = .ok (.ireturn, 1) := by decide +kernel
theorem dX11_see_26 : decode cX11_see 26 = .ok (.aload_n 0, 1) := by decide +kernel
theorem dX11_see_27 : decode cX11_see 27 = .ok (.getfield 119, 3) := by decide +kernel
theorem dX11_see_30 : decode cX11_see 30 = .ok (.aload_n 0, 1) := by decide +kernel
theorem dX11_see_31 : decode cX11_see 31 = .ok (.getfield 116, 3) := by decide +kernel
theorem dX11_see_34 : decode cX11_see 34 = .ok (.iconst 0, 1) := by decide +kernel
theorem dX11_see_35 : decode cX11_see 35 = .ok (.iaload, 1) := by decide +kernel
theorem dX11_see_36 : decode cX11_see 36 = .ok (.iload_n 1, 1) := by decide +kernel
theorem dX11_see_37 : decode cX11_see 37 = .ok (.iastore, 1) := by decide +kernel
theorem dX11_see_38 : decode cX11_see 38 = .ok (.aload_n 0, 1) := by decide +kernel
theorem dX11_see_39 : decode cX11_see 39 = .ok (.getfield 122, 3) := by decide +kernel
theorem dX11_see_42 : decode cX11_see 42 = .ok (.aload_n 0, 1) := by decide +kernel
theorem dX11_see_43 : decode cX11_see 43 = .ok (.getfield 116, 3) := by decide +kernel
theorem dX11_see_46 : decode cX11_see 46 = .ok (.iconst 0, 1) := by decide +kernel
theorem dX11_see_47 : decode cX11_see 47 = .ok (.iaload, 1) := by decide +kernel
