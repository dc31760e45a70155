theorem ic_m8 : Int32.ofInt (-8) = -8 := by decide
theorem ic_m1 : Int32.ofInt (-1) = -1 := by decide
theorem ic_0 : Int32.ofInt (0) = 0 := by decide
theorem ic_1 : Int32.ofInt (1) = 1 := by decide
theorem ic_2 : Int32.ofInt (2) = 2 := by decide
theorem ic_3 : Int32.ofInt (3) = 3 := by decide
theorem ic_4 : Int32.ofInt (4) = 4 := by decide
theorem ic_5 : Int32.ofInt (5) = 5 := by decide
theorem lay_0 : lay 0 = (9, 13) := by decide +kernel
theorem lo_0 : (lay 0).1 = 9 := by decide +kernel
theorem ltc_0 : 0 < 126 := by decide
theorem lay_1 : lay 1 = (6, 7) := by decide +kernel
theorem lo_1 : (lay 1).1 = 6 := by decide +kernel
theorem ltc_1 : 1 < 126 := by decide
theorem lay_2 : lay 2 = (11, 1000) := by decide +kernel
theorem lo_2 : (lay 2).1 = 11 := by decide +kernel
theorem ltc_2 : 2 < 126 := by decide
theorem lay_3 : lay 3 = (0, 2) := by decide +kernel
theorem lo_3 : (lay 3).1 = 0 := by decide +kernel
theorem ltc_3 : 3 < 126 := by decide
theorem lay_26 : lay 26 = (3, 16) := by decide +kernel
theorem lo_26 : (lay 26).1 = 3 := by decide +kernel
theorem ltc_26 : 26 < 126 := by decide
theorem lay_27 : lay 27 = (12, 40) := by decide +kernel
theorem lo_27 : (lay 27).1 = 12 := by decide +kernel
theorem ltc_27 : 27 < 126 := by decide
theorem lay_28 : lay 28 = (12, 40) := by decide +kernel
theorem lo_28 : (lay 28).1 = 12 := by decide +kernel
theorem ltc_28 : 28 < 126 := by decide
theorem lay_29 : lay 29 = (12, 40) := by decide +kernel
theorem lo_29 : (lay 29).1 = 12 := by decide +kernel
theorem ltc_29 : 29 < 126 := by decide
theorem lay_30 : lay 30 = (12, 40) := by decide +kernel
theorem lo_30 : (lay 30).1 = 12 := by decide +kernel
theorem ltc_30 : 30 < 126 := by decide
theorem lay_31 : lay 31 = (12, 40) := by decide +kernel
theorem lo_31 : (lay 31).1 = 12 := by decide +kernel
theorem ltc_31 : 31 < 126 := by decide
theorem lay_32 : lay 32 = (12, 40) := by decide +kernel
theorem lo_32 : (lay 32).1 = 12 := by decide +kernel
theorem ltc_32 : 32 < 126 := by decide
theorem lay_33 : lay 33 = (12, 200) := by decide +kernel
theorem lo_33 : (lay 33).1 = 12 := by decide +kernel
theorem ltc_33 : 33 < 126 := by decide
theorem lay_34 : lay 34 = (12, 200) := by decide +kernel
theorem lo_34 : (lay 34).1 = 12 := by decide +kernel
theorem ltc_34 : 34 < 126 := by decide
theorem lay_35 : lay 35 = (12, 200) := by decide +kernel
theorem lo_35 : (lay 35).1 = 12 := by decide +kernel
theorem ltc_35 : 35 < 126 := by decide
theorem lay_36 : lay 36 = (12, 160) := by decide +kernel
theorem lo_36 : (lay 36).1 = 12 := by decide +kernel
theorem ltc_36 : 36 < 126 := by decide
theorem lay_37 : lay 37 = (12, 13) := by decide +kernel
theorem lo_37 : (lay 37).1 = 12 := by decide +kernel
theorem ltc_37 : 37 < 126 := by decide
theorem lay_38 : lay 38 = (12, 13) := by decide +kernel
theorem lo_38 : (lay 38).1 = 12 := by decide +kernel
theorem ltc_38 : 38 < 126 := by decide
theorem lay_39 : lay 39 = (12, 13) := by decide +kernel
theorem lo_39 : (lay 39).1 = 12 := by decide +kernel
theorem ltc_39 : 39 < 126 := by decide
theorem lay_40 : lay 40 = (3, 16) := by decide +kernel
theorem lo_40 : (lay 40).1 = 3 := by decide +kernel
theorem ltc_40 : 40 < 126 := by decide
theorem lay_54 : lay 54 = (5, 8) := by decide +kernel
theorem lo_54 : (lay 54).1 = 5 := by decide +kernel
theorem ltc_54 : 54 < 126 := by decide
theorem lay_55 : lay 55 = (12, 200) := by decide +kernel
theorem lo_55 : (lay 55).1 = 12 := by decide +kernel
theorem ltc_55 : 55 < 126 := by decide
theorem lay_57 : lay 57 = (12, 13) := by decide +kernel
theorem lo_57 : (lay 57).1 = 12 := by decide +kernel
theorem ltc_57 : 57 < 126 := by decide
theorem lay_58 : lay 58 = (12, 8) := by decide +kernel
theorem lo_58 : (lay 58).1 = 12 := by decide +kernel
theorem ltc_58 : 58 < 126 := by decide
theorem lay_59 : lay 59 = (5, 8) := by decide +kernel
theorem lo_59 : (lay 59).1 = 5 := by decide +kernel
theorem ltc_59 : 59 < 126 := by decide
theorem lay_64 : lay 64 = (14, 2) := by decide +kernel
theorem lo_64 : (lay 64).1 = 14 := by decide +kernel
theorem ltc_64 : 64 < 126 := by decide
theorem lay_65 : lay 65 = (5, 8) := by decide +kernel
theorem lo_65 : (lay 65).1 = 5 := by decide +kernel
theorem ltc_65 : 65 < 126 := by decide
theorem lay_70 : lay 70 = (5, 8) := by decide +kernel
theorem lo_70 : (lay 70).1 = 5 := by decide +kernel
theorem ltc_70 : 70 < 126 := by decide
theorem lay_75 : lay 75 = (13, 2) := by decide +kernel
theorem lo_75 : (lay 75).1 = 13 := by decide +kernel
theorem ltc_75 : 75 < 126 := by decide
theorem lay_76 : lay 76 = (4, 3) := by decide +kernel
theorem lo_76 : (lay 76).1 = 4 := by decide +kernel
theorem ltc_76 : 76 < 126 := by decide
theorem lay_77 : lay 77 = (12, 13) := by decide +kernel
theorem lo_77 : (lay 77).1 = 12 := by decide +kernel
theorem ltc_77 : 77 < 126 := by decide
theorem lay_78 : lay 78 = (10, 59) := by decide +kernel
theorem lo_78 : (lay 78).1 = 10 := by decide +kernel
theorem ltc_78 : 78 < 126 := by decide
theorem lay_79 : lay 79 = (12, 1000) := by decide +kernel
theorem lo_79 : (lay 79).1 = 12 := by decide +kernel
theorem ltc_79 : 79 < 126 := by decide
theorem lay_80 : lay 80 = (12, 6) := by decide +kernel
theorem lo_80 : (lay 80).1 = 12 := by decide +kernel
theorem ltc_80 : 80 < 126 := by decide
theorem lay_81 : lay 81 = (12, 12) := by decide +kernel
theorem lo_81 : (lay 81).1 = 12 := by decide +kernel
theorem ltc_81 : 81 < 126 := by decide
theorem lay_82 : lay 82 = (12, 12) := by decide +kernel
theorem lo_82 : (lay 82).1 = 12 := by decide +kernel
theorem ltc_82 : 82 < 126 := by decide
theorem lay_83 : lay 83 = (12, 60) := by decide +kernel
theorem lo_83 : (lay 83).1 = 12 := by decide +kernel
theorem ltc_83 : 83 < 126 := by decide
theorem lay_84 : lay 84 = (12, 2) := by decide +kernel
theorem lo_84 : (lay 84).1 = 12 := by decide +kernel
theorem ltc_84 : 84 < 126 := by decide
theorem lay_85 : lay 85 = (12, 2) := by decide +kernel
theorem lo_85 : (lay 85).1 = 12 := by decide +kernel
theorem ltc_85 : 85 < 126 := by decide
theorem lay_86 : lay 86 = (12, 2000) := by decide +kernel
theorem lo_86 : (lay 86).1 = 12 := by decide +kernel
theorem ltc_86 : 86 < 126 := by decide
theorem lay_87 : lay 87 = (12, 7) := by decide +kernel
theorem lo_87 : (lay 87).1 = 12 := by decide +kernel
theorem ltc_87 : 87 < 126 := by decide
theorem lay_88 : lay 88 = (13, 7) := by decide +kernel
theorem lo_88 : (lay 88).1 = 13 := by decide +kernel
theorem ltc_88 : 88 < 126 := by decide
theorem lay_89 : lay 89 = (12, 7) := by decide +kernel
theorem lo_89 : (lay 89).1 = 12 := by decide +kernel
theorem ltc_89 : 89 < 126 := by decide
theorem lay_90 : lay 90 = (12, 7) := by decide +kernel
theorem lo_90 : (lay 90).1 = 12 := by decide +kernel
theorem ltc_90 : 90 < 126 := by decide
theorem lay_91 : lay 91 = (12, 7) := by decide +kernel
theorem lo_91 : (lay 91).1 = 12 := by decide +kernel
theorem ltc_91 : 91 < 126 := by decide
theorem lay_92 : lay 92 = (12, 7) := by decide +kernel
theorem lo_92 : (lay 92).1 = 12 := by decide +kernel
theorem ltc_92 : 92 < 126 := by decide
theorem lay_93 : lay 93 = (12, 7) := by decide +kernel
theorem lo_93 : (lay 93).1 = 12 := by decide +kernel
theorem ltc_93 : 93 < 126 := by decide
theorem lay_94 : lay 94 = (12, 7) := by decide +kernel
theorem lo_94 : (lay 94).1 = 12 := by decide +kernel
theorem ltc_94 : 94 < 126 := by decide
theorem lay_95 : lay 95 = (12, 7) := by decide +kernel
theorem lo_95 : (lay 95).1 = 12 := by decide +kernel
theorem ltc_95 : 95 < 126 := by decide
theorem lay_96 : lay 96 = (12, 7) := by decide +kernel
theorem lo_96 : (lay 96).1 = 12 := by decide +kernel
theorem ltc_96 : 96 < 126 := by decide
theorem lay_97 : lay 97 = (12, 7) := by decide +kernel
theorem lo_97 : (lay 97).1 = 12 := by decide +kernel
theorem ltc_97 : 97 < 126 := by decide
theorem lay_98 : lay 98 = (12, 20) := by decide +kernel
theorem lo_98 : (lay 98).1 = 12 := by decide +kernel
theorem ltc_98 : 98 < 126 := by decide
theorem lay_99 : lay 99 = (12, 2) := by decide +kernel
theorem lo_99 : (lay 99).1 = 12 := by decide +kernel
theorem ltc_99 : 99 < 126 := by decide
theorem lay_100 : lay 100 = (12, 80) := by decide +kernel
theorem lo_100 : (lay 100).1 = 12 := by decide +kernel
theorem ltc_100 : 100 < 126 := by decide
theorem lay_101 : lay 101 = (12, 80) := by decide +kernel
theorem lo_101 : (lay 101).1 = 12 := by decide +kernel
theorem ltc_101 : 101 < 126 := by decide
theorem lay_102 : lay 102 = (12, 80) := by decide +kernel
theorem lo_102 : (lay 102).1 = 12 := by decide +kernel
theorem ltc_102 : 102 < 126 := by decide
theorem lay_103 : lay 103 = (12, 80) := by decide +kernel
theorem lo_103 : (lay 103).1 = 12 := by decide +kernel
theorem ltc_103 : 103 < 126 := by decide
theorem lay_104 : lay 104 = (12, 80) := by decide +kernel
theorem lo_104 : (lay 104).1 = 12 := by decide +kernel
theorem ltc_104 : 104 < 126 := by decide
theorem lay_105 : lay 105 = (12, 400) := by decide +kernel
theorem lo_105 : (lay 105).1 = 12 := by decide +kernel
theorem ltc_105 : 105 < 126 := by decide
theorem lay_106 : lay 106 = (12, 400) := by decide +kernel
theorem lo_106 : (lay 106).1 = 12 := by decide +kernel
theorem ltc_106 : 106 < 126 := by decide
theorem lay_107 : lay 107 = (12, 320) := by decide +kernel
theorem lo_107 : (lay 107).1 = 12 := by decide +kernel
theorem ltc_107 : 107 < 126 := by decide
theorem lay_108 : lay 108 = (12, 2) := by decide +kernel
theorem lo_108 : (lay 108).1 = 12 := by decide +kernel
theorem ltc_108 : 108 < 126 := by decide
theorem lay_109 : lay 109 = (12, 400) := by decide +kernel
theorem lo_109 : (lay 109).1 = 12 := by decide +kernel
theorem ltc_109 : 109 < 126 := by decide
theorem lay_110 : lay 110 = (12, 4) := by decide +kernel
theorem lo_110 : (lay 110).1 = 12 := by decide +kernel
theorem ltc_110 : 110 < 126 := by decide
theorem lay_111 : lay 111 = (12, 160) := by decide +kernel
theorem lo_111 : (lay 111).1 = 12 := by decide +kernel
theorem ltc_111 : 111 < 126 := by decide
theorem lay_112 : lay 112 = (12, 160) := by decide +kernel
theorem lo_112 : (lay 112).1 = 12 := by decide +kernel
theorem ltc_112 : 112 < 126 := by decide
theorem lay_113 : lay 113 = (12, 160) := by decide +kernel
theorem lo_113 : (lay 113).1 = 12 := by decide +kernel
theorem ltc_113 : 113 < 126 := by decide
theorem lay_114 : lay 114 = (12, 3) := by decide +kernel
theorem lo_114 : (lay 114).1 = 12 := by decide +kernel
theorem ltc_114 : 114 < 126 := by decide
theorem lay_115 : lay 115 = (12, 24) := by decide +kernel
theorem lo_115 : (lay 115).1 = 12 := by decide +kernel
theorem ltc_115 : 115 < 126 := by decide
theorem lay_116 : lay 116 = (13, 24) := by decide +kernel
theorem lo_116 : (lay 116).1 = 13 := by decide +kernel
theorem ltc_116 : 116 < 126 := by decide
theorem lay_117 : lay 117 = (12, 374) := by decide +kernel
theorem lo_117 : (lay 117).1 = 12 := by decide +kernel
theorem ltc_117 : 117 < 126 := by decide
theorem lay_119 : lay 119 = (12, 374) := by decide +kernel
theorem lo_119 : (lay 119).1 = 12 := by decide +kernel
theorem ltc_119 : 119 < 126 := by decide
theorem lay_121 : lay 121 = (13, 2) := by decide +kernel
theorem lo_121 : (lay 121).1 = 13 := by decide +kernel
theorem ltc_121 : 121 < 126 := by decide
theorem lay_122 : lay 122 = (13, 40) := by decide +kernel
theorem lo_122 : (lay 122).1 = 13 := by decide +kernel
theorem ltc_122 : 122 < 126 := by decide
theorem lay_123 : lay 123 = (12, 13) := by decide +kernel
theorem lo_123 : (lay 123).1 = 12 := by decide +kernel
theorem ltc_123 : 123 < 126 := by decide
theorem lay_124 : lay 124 = (13, 2080) := by decide +kernel
theorem lo_124 : (lay 124).1 = 13 := by decide +kernel
theorem ltc_124 : 124 < 126 := by decide
theorem lay_126 : lay 126 = (1, 1) := by decide +kernel
theorem lo_126 : (lay 126).1 = 1 := by decide +kernel
theorem rt_0_0 (t u w v : Nat) (x : Option Nat) : RT t u w v x 0 0 = some 1 := rfl
theorem rt_0_2 (t u w v : Nat) (x : Option Nat) : RT t u w v x 0 2 = some t := rfl
theorem rt_0_4 (t u w v : Nat) (x : Option Nat) : RT t u w v x 0 4 = some w := rfl
theorem rt_0_6 (t u w v : Nat) (x : Option Nat) : RT t u w v x 0 6 = some 26 := rfl
theorem rt_0_7 (t u w v : Nat) (x : Option Nat) : RT t u w v x 0 7 = some 40 := rfl
theorem rt_0_8 (t u w v : Nat) (x : Option Nat) : RT t u w v x 0 8 = some 54 := rfl
theorem rt_0_9 (t u w v : Nat) (x : Option Nat) : RT t u w v x 0 9 = some 59 := rfl
theorem rt_0_10 (t u w v : Nat) (x : Option Nat) : RT t u w v x 0 10 = some 64 := rfl
theorem rt_0_11 (t u w v : Nat) (x : Option Nat) : RT t u w v x 0 11 = some 75 := rfl
theorem rt_0_12 (t u w v : Nat) (x : Option Nat) : RT t u w v x 0 12 = some 76 := rfl
theorem rt_1_0 (t u w v : Nat) (x : Option Nat) : RT t u w v x 1 0 = some 2 := rfl
theorem rt_3_0 (t u w v : Nat) (x : Option Nat) : RT t u w v x 3 0 = some 1 := rfl
theorem rt_3_1 (t u w v : Nat) (x : Option Nat) : RT t u w v x 3 1 = x := rfl
theorem rt_26_3 (t u w v : Nat) (x : Option Nat) : RT t u w v x 26 3 = some 27 := rfl
theorem rt_26_4 (t u w v : Nat) (x : Option Nat) : RT t u w v x 26 4 = some 28 := rfl
theorem rt_26_5 (t u w v : Nat) (x : Option Nat) : RT t u w v x 26 5 = some 29 := rfl
theorem rt_26_6 (t u w v : Nat) (x : Option Nat) : RT t u w v x 26 6 = some 30 := rfl
theorem rt_26_7 (t u w v : Nat) (x : Option Nat) : RT t u w v x 26 7 = some 31 := rfl
theorem rt_26_8 (t u w v : Nat) (x : Option Nat) : RT t u w v x 26 8 = some 32 := rfl
theorem rt_26_9 (t u w v : Nat) (x : Option Nat) : RT t u w v x 26 9 = some 33 := rfl
theorem rt_26_10 (t u w v : Nat) (x : Option Nat) : RT t u w v x 26 10 = some 34 := rfl
theorem rt_26_11 (t u w v : Nat) (x : Option Nat) : RT t u w v x 26 11 = some 35 := rfl
theorem rt_26_12 (t u w v : Nat) (x : Option Nat) : RT t u w v x 26 12 = some 36 := rfl
theorem rt_26_13 (t u w v : Nat) (x : Option Nat) : RT t u w v x 26 13 = some 37 := rfl
theorem rt_26_14 (t u w v : Nat) (x : Option Nat) : RT t u w v x 26 14 = some 38 := rfl
theorem rt_26_15 (t u w v : Nat) (x : Option Nat) : RT t u w v x 26 15 = some 39 := rfl
theorem rt_54_2 (t u w v : Nat) (x : Option Nat) : RT t u w v x 54 2 = some 55 := rfl
theorem rt_54_4 (t u w v : Nat) (x : Option Nat) : RT t u w v x 54 4 = some 57 := rfl
theorem rt_54_6 (t u w v : Nat) (x : Option Nat) : RT t u w v x 54 6 = some 58 := rfl
theorem rt_64_0 (t u w v : Nat) (x : Option Nat) : RT t u w v x 64 0 = some 65 := rfl
theorem rt_64_1 (t u w v : Nat) (x : Option Nat) : RT t u w v x 64 1 = some 70 := rfl
theorem rt_76_0 (t u w v : Nat) (x : Option Nat) : RT t u w v x 76 0 = some 54 := rfl
theorem rt_76_1 (t u w v : Nat) (x : Option Nat) : RT t u w v x 76 1 = some 26 := rfl
theorem rt_76_2 (t u w v : Nat) (x : Option Nat) : RT t u w v x 76 2 = some 77 := rfl
theorem rt_78_2 (t u w v : Nat) (x : Option Nat) : RT t u w v x 78 2 = some 79 := rfl
theorem rt_78_10 (t u w v : Nat) (x : Option Nat) : RT t u w v x 78 10 = some 80 := rfl
theorem rt_78_11 (t u w v : Nat) (x : Option Nat) : RT t u w v x 78 11 = some 81 := rfl
theorem rt_78_12 (t u w v : Nat) (x : Option Nat) : RT t u w v x 78 12 = some 82 := rfl
theorem rt_78_13 (t u w v : Nat) (x : Option Nat) : RT t u w v x 78 13 = some 83 := rfl
theorem rt_78_14 (t u w v : Nat) (x : Option Nat) : RT t u w v x 78 14 = some 84 := rfl
theorem rt_78_15 (t u w v : Nat) (x : Option Nat) : RT t u w v x 78 15 = some 85 := rfl
theorem rt_78_16 (t u w v : Nat) (x : Option Nat) : RT t u w v x 78 16 = some 86 := rfl
theorem rt_78_19 (t u w v : Nat) (x : Option Nat) : RT t u w v x 78 19 = some 87 := rfl
theorem rt_78_20 (t u w v : Nat) (x : Option Nat) : RT t u w v x 78 20 = some 88 := rfl
theorem rt_78_21 (t u w v : Nat) (x : Option Nat) : RT t u w v x 78 21 = some 89 := rfl
theorem rt_78_22 (t u w v : Nat) (x : Option Nat) : RT t u w v x 78 22 = some 90 := rfl
theorem rt_78_23 (t u w v : Nat) (x : Option Nat) : RT t u w v x 78 23 = some 91 := rfl
theorem rt_78_24 (t u w v : Nat) (x : Option Nat) : RT t u w v x 78 24 = some 92 := rfl
theorem rt_78_25 (t u w v : Nat) (x : Option Nat) : RT t u w v x 78 25 = some 93 := rfl
theorem rt_78_26 (t u w v : Nat) (x : Option Nat) : RT t u w v x 78 26 = some 94 := rfl
theorem rt_78_27 (t u w v : Nat) (x : Option Nat) : RT t u w v x 78 27 = some 95 := rfl
theorem rt_78_28 (t u w v : Nat) (x : Option Nat) : RT t u w v x 78 28 = some 96 := rfl
theorem rt_78_29 (t u w v : Nat) (x : Option Nat) : RT t u w v x 78 29 = some 97 := rfl
theorem rt_78_30 (t u w v : Nat) (x : Option Nat) : RT t u w v x 78 30 = some 98 := rfl
theorem rt_78_32 (t u w v : Nat) (x : Option Nat) : RT t u w v x 78 32 = some 99 := rfl
theorem rt_78_33 (t u w v : Nat) (x : Option Nat) : RT t u w v x 78 33 = some 100 := rfl
theorem rt_78_34 (t u w v : Nat) (x : Option Nat) : RT t u w v x 78 34 = some 101 := rfl
theorem rt_78_35 (t u w v : Nat) (x : Option Nat) : RT t u w v x 78 35 = some 102 := rfl
theorem rt_78_36 (t u w v : Nat) (x : Option Nat) : RT t u w v x 78 36 = some 103 := rfl
theorem rt_78_37 (t u w v : Nat) (x : Option Nat) : RT t u w v x 78 37 = some 104 := rfl
theorem rt_78_38 (t u w v : Nat) (x : Option Nat) : RT t u w v x 78 38 = some 105 := rfl
theorem rt_78_39 (t u w v : Nat) (x : Option Nat) : RT t u w v x 78 39 = some 106 := rfl
theorem rt_78_40 (t u w v : Nat) (x : Option Nat) : RT t u w v x 78 40 = some 107 := rfl
theorem rt_78_41 (t u w v : Nat) (x : Option Nat) : RT t u w v x 78 41 = some 108 := rfl
theorem rt_78_42 (t u w v : Nat) (x : Option Nat) : RT t u w v x 78 42 = some 109 := rfl
theorem rt_78_43 (t u w v : Nat) (x : Option Nat) : RT t u w v x 78 43 = some 110 := rfl
theorem rt_78_44 (t u w v : Nat) (x : Option Nat) : RT t u w v x 78 44 = some 111 := rfl
theorem rt_78_45 (t u w v : Nat) (x : Option Nat) : RT t u w v x 78 45 = some 112 := rfl
theorem rt_78_46 (t u w v : Nat) (x : Option Nat) : RT t u w v x 78 46 = some 113 := rfl
theorem rt_78_47 (t u w v : Nat) (x : Option Nat) : RT t u w v x 78 47 = some 114 := rfl
theorem rt_78_48 (t u w v : Nat) (x : Option Nat) : RT t u w v x 78 48 = some 115 := rfl
theorem rt_78_49 (t u w v : Nat) (x : Option Nat) : RT t u w v x 78 49 = some 116 := rfl
theorem rt_78_50 (t u w v : Nat) (x : Option Nat) : RT t u w v x 78 50 = some 117 := rfl
theorem rt_78_51 (t u w v : Nat) (x : Option Nat) : RT t u w v x 78 51 = some 118 := rfl
theorem rt_78_52 (t u w v : Nat) (x : Option Nat) : RT t u w v x 78 52 = some 119 := rfl
theorem rt_78_53 (t u w v : Nat) (x : Option Nat) : RT t u w v x 78 53 = some 120 := rfl
theorem rt_78_54 (t u w v : Nat) (x : Option Nat) : RT t u w v x 78 54 = some 121 := rfl
theorem rt_78_55 (t u w v : Nat) (x : Option Nat) : RT t u w v x 78 55 = some 122 := rfl
theorem rt_78_56 (t u w v : Nat) (x : Option Nat) : RT t u w v x 78 56 = some 123 := rfl
theorem rt_78_57 (t u w v : Nat) (x : Option Nat) : RT t u w v x 78 57 = some 124 := rfl
theorem lt_isLa_0 {a : Nat} (h : isLa a) : a < 126 := by rcases h with rfl | rfl <;> decide
theorem lay_isLa_0 {a : Nat} (h : isLa a) : lay (a) = (3, 16) := by rcases h with rfl | rfl <;> decide +kernel
theorem lo_isLa_0 {a : Nat} (h : isLa a) : (lay (a)).1 = 3 := by rcases h with rfl | rfl <;> decide +kernel
theorem rt_isLa_0_10 (t u w v : Nat) (x : Option Nat) {a : Nat} (h : isLa a) : RT t u w v x (a) 10 = some (a + 8) := by rcases h with rfl | rfl <;> rfl
theorem rt_isLa_0_11 (t u w v : Nat) (x : Option Nat) {a : Nat} (h : isLa a) : RT t u w v x (a) 11 = some (a + 9) := by rcases h with rfl | rfl <;> rfl
theorem rt_isLa_0_12 (t u w v : Nat) (x : Option Nat) {a : Nat} (h : isLa a) : RT t u w v x (a) 12 = some (a + 10) := by rcases h with rfl | rfl <;> rfl
theorem rt_isLa_0_13 (t u w v : Nat) (x : Option Nat) {a : Nat} (h : isLa a) : RT t u w v x (a) 13 = some (a + 11) := by rcases h with rfl | rfl <;> rfl
theorem rt_isLa_0_14 (t u w v : Nat) (x : Option Nat) {a : Nat} (h : isLa a) : RT t u w v x (a) 14 = some (a + 12) := by rcases h with rfl | rfl <;> rfl
theorem rt_isLa_0_15 (t u w v : Nat) (x : Option Nat) {a : Nat} (h : isLa a) : RT t u w v x (a) 15 = some (a + 13) := by rcases h with rfl | rfl <;> rfl
theorem rt_isLa_0_3 (t u w v : Nat) (x : Option Nat) {a : Nat} (h : isLa a) : RT t u w v x (a) 3 = some (a + 1) := by rcases h with rfl | rfl <;> rfl
theorem rt_isLa_0_4 (t u w v : Nat) (x : Option Nat) {a : Nat} (h : isLa a) : RT t u w v x (a) 4 = some (a + 2) := by rcases h with rfl | rfl <;> rfl
theorem rt_isLa_0_5 (t u w v : Nat) (x : Option Nat) {a : Nat} (h : isLa a) : RT t u w v x (a) 5 = some (a + 3) := by rcases h with rfl | rfl <;> rfl
theorem rt_isLa_0_6 (t u w v : Nat) (x : Option Nat) {a : Nat} (h : isLa a) : RT t u w v x (a) 6 = some (a + 4) := by rcases h with rfl | rfl <;> rfl
theorem rt_isLa_0_7 (t u w v : Nat) (x : Option Nat) {a : Nat} (h : isLa a) : RT t u w v x (a) 7 = some (a + 5) := by rcases h with rfl | rfl <;> rfl
theorem rt_isLa_0_8 (t u w v : Nat) (x : Option Nat) {a : Nat} (h : isLa a) : RT t u w v x (a) 8 = some (a + 6) := by rcases h with rfl | rfl <;> rfl
theorem rt_isLa_0_9 (t u w v : Nat) (x : Option Nat) {a : Nat} (h : isLa a) : RT t u w v x (a) 9 = some (a + 7) := by rcases h with rfl | rfl <;> rfl
theorem lt_isLa_1 {a : Nat} (h : isLa a) : a + 1 < 126 := by rcases h with rfl | rfl <;> decide
theorem lay_isLa_1 {a : Nat} (h : isLa a) : lay (a + 1) = (12, 40) := by rcases h with rfl | rfl <;> decide +kernel
theorem lo_isLa_1 {a : Nat} (h : isLa a) : (lay (a + 1)).1 = 12 := by rcases h with rfl | rfl <;> decide +kernel
theorem lt_isLa_10 {a : Nat} (h : isLa a) : a + 10 < 126 := by rcases h with rfl | rfl <;> decide
theorem lay_isLa_10 {a : Nat} (h : isLa a) : lay (a + 10) = (12, 160) := by rcases h with rfl | rfl <;> decide +kernel
theorem lo_isLa_10 {a : Nat} (h : isLa a) : (lay (a + 10)).1 = 12 := by rcases h with rfl | rfl <;> decide +kernel
theorem lt_isLa_11 {a : Nat} (h : isLa a) : a + 11 < 126 := by rcases h with rfl | rfl <;> decide
theorem lay_isLa_11 {a : Nat} (h : isLa a) : lay (a + 11) = (12, 13) := by rcases h with rfl | rfl <;> decide +kernel
theorem lo_isLa_11 {a : Nat} (h : isLa a) : (lay (a + 11)).1 = 12 := by rcases h with rfl | rfl <;> decide +kernel
theorem lt_isLa_12 {a : Nat} (h : isLa a) : a + 12 < 126 := by rcases h with rfl | rfl <;> decide
theorem lay_isLa_12 {a : Nat} (h : isLa a) : lay (a + 12) = (12, 13) := by rcases h with rfl | rfl <;> decide +kernel
theorem lo_isLa_12 {a : Nat} (h : isLa a) : (lay (a + 12)).1 = 12 := by rcases h with rfl | rfl <;> decide +kernel
theorem lt_isLa_13 {a : Nat} (h : isLa a) : a + 13 < 126 := by rcases h with rfl | rfl <;> decide
theorem lay_isLa_13 {a : Nat} (h : isLa a) : lay (a + 13) = (12, 13) := by rcases h with rfl | rfl <;> decide +kernel
theorem lo_isLa_13 {a : Nat} (h : isLa a) : (lay (a + 13)).1 = 12 := by rcases h with rfl | rfl <;> decide +kernel
theorem lt_isLa_2 {a : Nat} (h : isLa a) : a + 2 < 126 := by rcases h with rfl | rfl <;> decide
theorem lay_isLa_2 {a : Nat} (h : isLa a) : lay (a + 2) = (12, 40) := by rcases h with rfl | rfl <;> decide +kernel
theorem lo_isLa_2 {a : Nat} (h : isLa a) : (lay (a + 2)).1 = 12 := by rcases h with rfl | rfl <;> decide +kernel
theorem lt_isLa_3 {a : Nat} (h : isLa a) : a + 3 < 126 := by rcases h with rfl | rfl <;> decide
theorem lay_isLa_3 {a : Nat} (h : isLa a) : lay (a + 3) = (12, 40) := by rcases h with rfl | rfl <;> decide +kernel
theorem lo_isLa_3 {a : Nat} (h : isLa a) : (lay (a + 3)).1 = 12 := by rcases h with rfl | rfl <;> decide +kernel
theorem lt_isLa_4 {a : Nat} (h : isLa a) : a + 4 < 126 := by rcases h with rfl | rfl <;> decide
theorem lay_isLa_4 {a : Nat} (h : isLa a) : lay (a + 4) = (12, 40) := by rcases h with rfl | rfl <;> decide +kernel
theorem lo_isLa_4 {a : Nat} (h : isLa a) : (lay (a + 4)).1 = 12 := by rcases h with rfl | rfl <;> decide +kernel
theorem lt_isLa_5 {a : Nat} (h : isLa a) : a + 5 < 126 := by rcases h with rfl | rfl <;> decide
theorem lay_isLa_5 {a : Nat} (h : isLa a) : lay (a + 5) = (12, 40) := by rcases h with rfl | rfl <;> decide +kernel
theorem lo_isLa_5 {a : Nat} (h : isLa a) : (lay (a + 5)).1 = 12 := by rcases h with rfl | rfl <;> decide +kernel
theorem lt_isLa_6 {a : Nat} (h : isLa a) : a + 6 < 126 := by rcases h with rfl | rfl <;> decide
theorem lay_isLa_6 {a : Nat} (h : isLa a) : lay (a + 6) = (12, 40) := by rcases h with rfl | rfl <;> decide +kernel
theorem lo_isLa_6 {a : Nat} (h : isLa a) : (lay (a + 6)).1 = 12 := by rcases h with rfl | rfl <;> decide +kernel
theorem lt_isLa_7 {a : Nat} (h : isLa a) : a + 7 < 126 := by rcases h with rfl | rfl <;> decide
theorem lay_isLa_7 {a : Nat} (h : isLa a) : lay (a + 7) = (12, 200) := by rcases h with rfl | rfl <;> decide +kernel
theorem lo_isLa_7 {a : Nat} (h : isLa a) : (lay (a + 7)).1 = 12 := by rcases h with rfl | rfl <;> decide +kernel
theorem lt_isLa_8 {a : Nat} (h : isLa a) : a + 8 < 126 := by rcases h with rfl | rfl <;> decide
theorem lay_isLa_8 {a : Nat} (h : isLa a) : lay (a + 8) = (12, 200) := by rcases h with rfl | rfl <;> decide +kernel
theorem lo_isLa_8 {a : Nat} (h : isLa a) : (lay (a + 8)).1 = 12 := by rcases h with rfl | rfl <;> decide +kernel
theorem lt_isLa_9 {a : Nat} (h : isLa a) : a + 9 < 126 := by rcases h with rfl | rfl <;> decide
theorem lay_isLa_9 {a : Nat} (h : isLa a) : lay (a + 9) = (12, 200) := by rcases h with rfl | rfl <;> decide +kernel
theorem lo_isLa_9 {a : Nat} (h : isLa a) : (lay (a + 9)).1 = 12 := by rcases h with rfl | rfl <;> decide +kernel
theorem lt_isLw_0 {a : Nat} (h : isLw a) : a < 126 := by rcases h with rfl | rfl <;> decide
theorem lay_isLw_0 {a : Nat} (h : isLw a) : lay (a) = (2, 4) := by rcases h with rfl | rfl <;> decide +kernel
theorem lo_isLw_0 {a : Nat} (h : isLw a) : (lay (a)).1 = 2 := by rcases h with rfl | rfl <;> decide +kernel
theorem rt_isLw_0_0 (t u w v : Nat) (x : Option Nat) {a : Nat} (h : isLw a) : RT t u w v x (a) 0 = some (a + 1) := by rcases h with rfl | rfl <;> rfl
theorem rt_isLw_0_2 (t u w v : Nat) (x : Option Nat) {a : Nat} (h : isLw a) : RT t u w v x (a) 2 = some (a + 2) := by rcases h with rfl | rfl <;> rfl
theorem lt_isLw_1 {a : Nat} (h : isLw a) : a + 1 < 126 := by rcases h with rfl | rfl <;> decide
theorem lay_isLw_1 {a : Nat} (h : isLw a) : lay (a + 1) = (12, 1000) := by rcases h with rfl | rfl <;> decide +kernel
theorem lo_isLw_1 {a : Nat} (h : isLw a) : (lay (a + 1)).1 = 12 := by rcases h with rfl | rfl <;> decide +kernel
theorem lt_isLw_2 {a : Nat} (h : isLw a) : a + 2 < 126 := by rcases h with rfl | rfl <;> decide
theorem lay_isLw_2 {a : Nat} (h : isLw a) : lay (a + 2) = (12, 24) := by rcases h with rfl | rfl <;> decide +kernel
theorem lo_isLw_2 {a : Nat} (h : isLw a) : (lay (a + 2)).1 = 12 := by rcases h with rfl | rfl <;> decide +kernel
theorem lt_isSt_0 {a : Nat} (h : isSt a) : a < 126 := by rcases h with rfl | rfl | rfl | rfl <;> decide
theorem lay_isSt_0 {a : Nat} (h : isSt a) : lay (a) = (5, 8) := by rcases h with rfl | rfl | rfl | rfl <;> decide +kernel
theorem lo_isSt_0 {a : Nat} (h : isSt a) : (lay (a)).1 = 5 := by rcases h with rfl | rfl | rfl | rfl <;> decide +kernel
theorem rt_isSt_0_0 (t u w v : Nat) (x : Option Nat) {a : Nat} (h : isSt a) : RT t u w v x (a) 0 = some 26 := by rcases h with rfl | rfl | rfl | rfl <;> rfl
theorem rt_isSt_0_2 (t u w v : Nat) (x : Option Nat) {a : Nat} (h : isSt a) : RT t u w v x (a) 2 = some (a + 1) := by rcases h with rfl | rfl | rfl | rfl <;> rfl
theorem rt_isSt_0_3 (t u w v : Nat) (x : Option Nat) {a : Nat} (h : isSt a) : RT t u w v x (a) 3 = some (a + 2) := by rcases h with rfl | rfl | rfl | rfl <;> rfl
theorem rt_isSt_0_4 (t u w v : Nat) (x : Option Nat) {a : Nat} (h : isSt a) : RT t u w v x (a) 4 = some (a + 3) := by rcases h with rfl | rfl | rfl | rfl <;> rfl
theorem rt_isSt_0_6 (t u w v : Nat) (x : Option Nat) {a : Nat} (h : isSt a) : RT t u w v x (a) 6 = some (a + 4) := by rcases h with rfl | rfl | rfl | rfl <;> rfl
theorem lt_isSt_1 {a : Nat} (h : isSt a) : a + 1 < 126 := by rcases h with rfl | rfl | rfl | rfl <;> decide
theorem lay_isSt_1 {a : Nat} (h : isSt a) : lay (a + 1) = (12, 200) := by rcases h with rfl | rfl | rfl | rfl <;> decide +kernel
theorem lo_isSt_1 {a : Nat} (h : isSt a) : (lay (a + 1)).1 = 12 := by rcases h with rfl | rfl | rfl | rfl <;> decide +kernel
theorem lt_isSt_2 {a : Nat} (h : isSt a) : a + 2 < 126 := by rcases h with rfl | rfl | rfl | rfl <;> decide
theorem lay_isSt_2 {a : Nat} (h : isSt a) : lay (a + 2) = (12, 200) := by rcases h with rfl | rfl | rfl | rfl <;> decide +kernel
theorem lo_isSt_2 {a : Nat} (h : isSt a) : (lay (a + 2)).1 = 12 := by rcases h with rfl | rfl | rfl | rfl <;> decide +kernel
theorem lt_isSt_3 {a : Nat} (h : isSt a) : a + 3 < 126 := by rcases h with rfl | rfl | rfl | rfl <;> decide
theorem lay_isSt_3 {a : Nat} (h : isSt a) : lay (a + 3) = (12, 13) := by rcases h with rfl | rfl | rfl | rfl <;> decide +kernel
theorem lo_isSt_3 {a : Nat} (h : isSt a) : (lay (a + 3)).1 = 12 := by rcases h with rfl | rfl | rfl | rfl <;> decide +kernel
theorem lt_isSt_4 {a : Nat} (h : isSt a) : a + 4 < 126 := by rcases h with rfl | rfl | rfl | rfl <;> decide
theorem lay_isSt_4 {a : Nat} (h : isSt a) : lay (a + 4) = (12, 8) := by rcases h with rfl | rfl | rfl | rfl <;> decide +kernel
theorem lo_isSt_4 {a : Nat} (h : isSt a) : (lay (a + 4)).1 = 12 := by rcases h with rfl | rfl | rfl | rfl <;> decide +kernel
theorem lt_isTo_0 {a : Nat} (h : isTo a) : a < 126 := by rcases h with rfl | rfl <;> decide
theorem lay_isTo_0 {a : Nat} (h : isTo a) : lay (a) = (7, 7) := by rcases h with rfl | rfl <;> decide +kernel
theorem lo_isTo_0 {a : Nat} (h : isTo a) : (lay (a)).1 = 7 := by rcases h with rfl | rfl <;> decide +kernel
theorem rt_isTo_0_3 (t u w v : Nat) (x : Option Nat) {a : Nat} (h : isTo a) : RT t u w v x (a) 3 = some (a + 1) := by rcases h with rfl | rfl <;> rfl
theorem rt_isTo_0_4 (t u w v : Nat) (x : Option Nat) {a : Nat} (h : isTo a) : RT t u w v x (a) 4 = some (a + 2) := by rcases h with rfl | rfl <;> rfl
theorem rt_isTo_0_5 (t u w v : Nat) (x : Option Nat) {a : Nat} (h : isTo a) : RT t u w v x (a) 5 = some (a + 3) := by rcases h with rfl | rfl <;> rfl
theorem rt_isTo_0_6 (t u w v : Nat) (x : Option Nat) {a : Nat} (h : isTo a) : RT t u w v x (a) 6 = some (a + 4) := by rcases h with rfl | rfl <;> rfl
theorem lt_isTo_1 {a : Nat} (h : isTo a) : a + 1 < 126 := by rcases h with rfl | rfl <;> decide
theorem lay_isTo_1 {a : Nat} (h : isTo a) : lay (a + 1) = (12, 6) := by rcases h with rfl | rfl <;> decide +kernel
theorem lo_isTo_1 {a : Nat} (h : isTo a) : (lay (a + 1)).1 = 12 := by rcases h with rfl | rfl <;> decide +kernel
theorem lt_isTo_2 {a : Nat} (h : isTo a) : a + 2 < 126 := by rcases h with rfl | rfl <;> decide
theorem lay_isTo_2 {a : Nat} (h : isTo a) : lay (a + 2) = (12, 6) := by rcases h with rfl | rfl <;> decide +kernel
theorem lo_isTo_2 {a : Nat} (h : isTo a) : (lay (a + 2)).1 = 12 := by rcases h with rfl | rfl <;> decide +kernel
theorem lt_isTo_3 {a : Nat} (h : isTo a) : a + 3 < 126 := by rcases h with rfl | rfl <;> decide
theorem lay_isTo_3 {a : Nat} (h : isTo a) : lay (a + 3) = (12, 30) := by rcases h with rfl | rfl <;> decide +kernel
theorem lo_isTo_3 {a : Nat} (h : isTo a) : (lay (a + 3)).1 = 12 := by rcases h with rfl | rfl <;> decide +kernel
theorem lt_isTo_4 {a : Nat} (h : isTo a) : a + 4 < 126 := by rcases h with rfl | rfl <;> decide
theorem lay_isTo_4 {a : Nat} (h : isTo a) : lay (a + 4) = (2, 4) := by rcases h with rfl | rfl <;> decide +kernel
theorem lo_isTo_4 {a : Nat} (h : isTo a) : (lay (a + 4)).1 = 2 := by rcases h with rfl | rfl <;> decide +kernel
theorem lt_isWk_0 {a : Nat} (h : isWk a) : a < 126 := by rcases h with rfl | rfl <;> decide
theorem lay_isWk_0 {a : Nat} (h : isWk a) : lay (a) = (8, 5) := by rcases h with rfl | rfl <;> decide +kernel
theorem lo_isWk_0 {a : Nat} (h : isWk a) : (lay (a)).1 = 8 := by rcases h with rfl | rfl <;> decide +kernel
theorem rt_isWk_0_0 (t u w v : Nat) (x : Option Nat) {a : Nat} (h : isWk a) : RT t u w v x (a) 0 = some 1 := by rcases h with rfl | rfl <;> rfl
theorem rt_isWk_0_1 (t u w v : Nat) (x : Option Nat) {a : Nat} (h : isWk a) : RT t u w v x (a) 1 = some (a + 1) := by rcases h with rfl | rfl <;> rfl
theorem rt_isWk_0_2 (t u w v : Nat) (x : Option Nat) {a : Nat} (h : isWk a) : RT t u w v x (a) 2 = some (a + 2) := by rcases h with rfl | rfl <;> rfl
theorem rt_isWk_0_3 (t u w v : Nat) (x : Option Nat) {a : Nat} (h : isWk a) : RT t u w v x (a) 3 = some (a + 3) := by rcases h with rfl | rfl <;> rfl
theorem lt_isWk_1 {a : Nat} (h : isWk a) : a + 1 < 126 := by rcases h with rfl | rfl <;> decide
theorem lay_isWk_1 {a : Nat} (h : isWk a) : lay (a + 1) = (12, 40) := by rcases h with rfl | rfl <;> decide +kernel
theorem lo_isWk_1 {a : Nat} (h : isWk a) : (lay (a + 1)).1 = 12 := by rcases h with rfl | rfl <;> decide +kernel
theorem lt_isWk_2 {a : Nat} (h : isWk a) : a + 2 < 126 := by rcases h with rfl | rfl <;> decide
theorem lay_isWk_2 {a : Nat} (h : isWk a) : lay (a + 2) = (12, 40) := by rcases h with rfl | rfl <;> decide +kernel
theorem lo_isWk_2 {a : Nat} (h : isWk a) : (lay (a + 2)).1 = 12 := by rcases h with rfl | rfl <;> decide +kernel
theorem lt_isWk_3 {a : Nat} (h : isWk a) : a + 3 < 126 := by rcases h with rfl | rfl <;> decide
theorem lay_isWk_3 {a : Nat} (h : isWk a) : lay (a + 3) = (12, 40) := by rcases h with rfl | rfl <;> decide +kernel
theorem lo_isWk_3 {a : Nat} (h : isWk a) : (lay (a + 3)).1 = 12 := by rcases h with rfl | rfl <;> decide +kernel
theorem p_isIa_117 : isIa 117 := by exact ⟨by decide +kernel, by decide⟩
theorem p_isIa_118 : isIa 118 := by exact ⟨by decide +kernel, by decide⟩
theorem p_isIa_119 : isIa 119 := by exact ⟨by decide +kernel, by decide⟩
theorem p_isIa_120 : isIa 120 := by exact ⟨by decide +kernel, by decide⟩
theorem p_isIa_37 : isIa 37 := by exact ⟨by decide +kernel, by decide⟩
theorem p_isIa_38 : isIa 38 := by exact ⟨by decide +kernel, by decide⟩
theorem p_isIa_39 : isIa 39 := by exact ⟨by decide +kernel, by decide⟩
theorem p_isIa_80 : isIa 80 := by exact ⟨by decide +kernel, by decide⟩
theorem p_isIa_81 : isIa 81 := by exact ⟨by decide +kernel, by decide⟩
theorem p_isIa_82 : isIa 82 := by exact ⟨by decide +kernel, by decide⟩
theorem p_isIa_83 : isIa 83 := by exact ⟨by decide +kernel, by decide⟩
theorem p_isIa_86 : isIa 86 := by exact ⟨by decide +kernel, by decide⟩
theorem p_isLa_26 : isLa 26 := by simp [isLa]
theorem p_isLa_40 : isLa 40 := by simp [isLa]
theorem p_isSt_54 : isSt 54 := by simp [isSt]
theorem p_isSt_59 : isSt 59 := by simp [isSt]
theorem p_isSt_65 : isSt 65 := by simp [isSt]
theorem p_isSt_70 : isSt 70 := by simp [isSt]
theorem p_isTx_1004 : isTx 1004 := by exact ⟨by decide, by decide⟩
theorem p_isTx_1005 : isTx 1005 := by exact ⟨by decide, by decide⟩
theorem p_isTx_1006 : isTx 1006 := by exact ⟨by decide, by decide⟩
theorem p_isTx_1007 : isTx 1007 := by exact ⟨by decide, by decide⟩
theorem p_isTx_1008 : isTx 1008 := by exact ⟨by decide, by decide⟩
theorem p_isTx_1009 : isTx 1009 := by exact ⟨by decide, by decide⟩
theorem p_isTx_1010 : isTx 1010 := by exact ⟨by decide, by decide⟩
theorem p_isTx_1011 : isTx 1011 := by exact ⟨by decide, by decide⟩
theorem p_isTx_1012 : isTx 1012 := by exact ⟨by decide, by decide⟩
theorem p_isTx_1013 : isTx 1013 := by exact ⟨by decide, by decide⟩
theorem p_isTx_1014 : isTx 1014 := by exact ⟨by decide, by decide⟩
theorem p_isTx_1015 : isTx 1015 := by exact ⟨by decide, by decide⟩
theorem p_isTx_1016 : isTx 1016 := by exact ⟨by decide, by decide⟩
theorem p_isTx_1017 : isTx 1017 := by exact ⟨by decide, by decide⟩
theorem p_isTx_1018 : isTx 1018 := by exact ⟨by decide, by decide⟩
theorem p_isTx_1019 : isTx 1019 := by exact ⟨by decide, by decide⟩
theorem p_isTx_1020 : isTx 1020 := by exact ⟨by decide, by decide⟩
theorem p_isTx_1021 : isTx 1021 := by exact ⟨by decide, by decide⟩
theorem gt_RX0 : ∀ w ∈ wsX00, w ∈ gt := gt_all inX0 (by decide +kernel)
theorem gt_RX10 : ∀ w ∈ wsX100, w ∈ gt := gt_all inX10 (by decide +kernel)
theorem gt_RX11 : ∀ w ∈ wsX110, w ∈ gt := gt_all inX11 (by decide +kernel)
theorem gt_RX2 : ∀ w ∈ wsX20, w ∈ gt := gt_all inX2 (by decide +kernel)
theorem gt_RX3 : ∀ w ∈ wsX30, w ∈ gt := gt_all inX3 (by decide +kernel)
theorem gt_RX4 : ∀ w ∈ wsX40, w ∈ gt := gt_all inX4 (by decide +kernel)
theorem gt_RX5 : ∀ w ∈ wsX50, w ∈ gt := gt_all inX5 (by decide +kernel)
theorem gt_RX6 : ∀ w ∈ wsX60, w ∈ gt := gt_all inX6 (by decide +kernel)
theorem gt_RX7 : ∀ w ∈ wsX70, w ∈ gt := gt_all inX7 (by decide +kernel)
theorem gt_RX8 : ∀ w ∈ wsX80, w ∈ gt := gt_all inX8 (by decide +kernel)
theorem gt_RX9 : ∀ w ∈ wsX90, w ∈ gt := gt_all inX9 (by decide +kernel)
theorem fl_RX0_9 : FL RX0 9 0 0 := ⟨_, _, _, rfl, gt_RX0, by decide, by decide, by decide, gt_of (List.mem_of_getElem? (i := 186) (by decide +kernel)) rfl⟩
theorem fl_RX0_15 : FL RX0 15 0 1 := ⟨_, _, _, rfl, gt_RX0, by decide, by decide, by decide, gt_of (List.mem_of_getElem? (i := 187) (by decide +kernel)) rfl⟩
theorem fl_RX0_29 : FL RX0 29 6 6 := ⟨_, _, _, rfl, gt_RX7, by decide, by decide, by decide, gt_of (List.mem_of_getElem? (i := 162) (by decide +kernel)) rfl⟩
theorem fl_RX0_33 : FL RX0 33 6 2 := ⟨_, _, _, rfl, gt_RX7, by decide, by decide, by decide, gt_of (List.mem_of_getElem? (i := 155) (by decide +kernel)) rfl⟩
theorem fl_RX0_64 : FL RX0 64 7 0 := ⟨_, _, _, rfl, gt_RX8, by decide, by decide, by decide, gt_of (List.mem_of_getElem? (i := 222) (by decide +kernel)) rfl⟩
theorem fl_RX0_77 : FL RX0 77 7 1 := ⟨_, _, _, rfl, gt_RX8, by decide, by decide, by decide, gt_of (List.mem_of_getElem? (i := 226) (by decide +kernel)) rfl⟩
theorem fl_RX0_79 : FL RX0 79 7 6 := ⟨_, _, _, rfl, gt_RX8, by decide, by decide, by decide, gt_of (List.mem_of_getElem? (i := 242) (by decide +kernel)) rfl⟩
theorem fl_RX0_83 : FL RX0 83 2 1 := ⟨_, _, _, rfl, gt_RX3, by decide, by decide, by decide, gt_of (List.mem_of_getElem? (i := 208) (by decide +kernel)) rfl⟩
theorem fl_RX0_92 : FL RX0 92 7 2 := ⟨_, _, _, rfl, gt_RX8, by decide, by decide, by decide, gt_of (List.mem_of_getElem? (i := 230) (by decide +kernel)) rfl⟩
theorem fl_RX0_99 : FL RX0 99 7 3 := ⟨_, _, _, rfl, gt_RX8, by decide, by decide, by decide, gt_of (List.mem_of_getElem? (i := 234) (by decide +kernel)) rfl⟩
theorem fl_RX0_103 : FL RX0 103 7 4 := ⟨_, _, _, rfl, gt_RX8, by decide, by decide, by decide, gt_of (List.mem_of_getElem? (i := 237) (by decide +kernel)) rfl⟩
theorem fl_RX0_120 : FL RX0 120 6 5 := ⟨_, _, _, rfl, gt_RX7, by decide, by decide, by decide, gt_of (List.mem_of_getElem? (i := 160) (by decide +kernel)) rfl⟩
theorem fl_RX0_127 : FL RX0 127 7 5 := ⟨_, _, _, rfl, gt_RX8, by decide, by decide, by decide, gt_of (List.mem_of_getElem? (i := 239) (by decide +kernel)) rfl⟩
theorem fl_RX1_15 : FL RX1 15 7 0 := ⟨_, _, _, rfl, gt_RX8, by decide, by decide, by decide, gt_of (List.mem_of_getElem? (i := 223) (by decide +kernel)) rfl⟩
theorem fl_RX1_27 : FL RX1 27 7 2 := ⟨_, _, _, rfl, gt_RX8, by decide, by decide, by decide, gt_of (List.mem_of_getElem? (i := 229) (by decide +kernel)) rfl⟩
theorem fl_RX1_30 : FL RX1 30 7 3 := ⟨_, _, _, rfl, gt_RX8, by decide, by decide, by decide, gt_of (List.mem_of_getElem? (i := 233) (by decide +kernel)) rfl⟩
theorem fl_RX10_12 : FL RX10 12 9 0 := ⟨_, _, _, rfl, gt_RX10, by decide, by decide, by decide, gt_of (List.mem_of_getElem? (i := 426) (by decide +kernel)) rfl⟩
theorem fl_RX10_28 : FL RX10 28 9 2 := ⟨_, _, _, rfl, gt_RX10, by decide, by decide, by decide, gt_of (List.mem_of_getElem? (i := 428) (by decide +kernel)) rfl⟩
theorem fl_RX10_38 : FL RX10 38 9 4 := ⟨_, _, _, rfl, gt_RX10, by decide, by decide, by decide, gt_of (List.mem_of_getElem? (i := 430) (by decide +kernel)) rfl⟩
theorem fl_RX10_48 : FL RX10 48 9 6 := ⟨_, _, _, rfl, gt_RX10, by decide, by decide, by decide, gt_of (List.mem_of_getElem? (i := 432) (by decide +kernel)) rfl⟩
theorem fl_RX10_52 : FL RX10 52 9 7 := ⟨_, _, _, rfl, gt_RX10, by decide, by decide, by decide, gt_of (List.mem_of_getElem? (i := 433) (by decide +kernel)) rfl⟩
theorem fl_RX10_60 : FL RX10 60 9 8 := ⟨_, _, _, rfl, gt_RX10, by decide, by decide, by decide, gt_of (List.mem_of_getElem? (i := 434) (by decide +kernel)) rfl⟩
theorem fl_RX10_64 : FL RX10 64 9 9 := ⟨_, _, _, rfl, gt_RX10, by decide, by decide, by decide, gt_of (List.mem_of_getElem? (i := 435) (by decide +kernel)) rfl⟩
theorem fl_RX10_67 : FL RX10 67 9 10 := ⟨_, _, _, rfl, gt_RX10, by decide, by decide, by decide, gt_of (List.mem_of_getElem? (i := 436) (by decide +kernel)) rfl⟩
theorem fl_RX10_71 : FL RX10 71 9 11 := ⟨_, _, _, rfl, gt_RX10, by decide, by decide, by decide, gt_of (List.mem_of_getElem? (i := 437) (by decide +kernel)) rfl⟩
theorem fl_RX10_80 : FL RX10 80 9 12 := ⟨_, _, _, rfl, gt_RX10, by decide, by decide, by decide, gt_of (List.mem_of_getElem? (i := 438) (by decide +kernel)) rfl⟩
theorem fl_RX10_88 : FL RX10 88 6 1 := ⟨_, _, _, rfl, gt_RX7, by decide, by decide, by decide, gt_of (List.mem_of_getElem? (i := 152) (by decide +kernel)) rfl⟩
theorem fl_RX10_96 : FL RX10 96 7 0 := ⟨_, _, _, rfl, gt_RX8, by decide, by decide, by decide, gt_of (List.mem_of_getElem? (i := 224) (by decide +kernel)) rfl⟩
theorem fl_RX10_103 : FL RX10 103 8 4 := ⟨_, _, _, rfl, gt_RX9, by decide, by decide, by decide, gt_of (List.mem_of_getElem? (i := 272) (by decide +kernel)) rfl⟩
theorem fl_RX10_107 : FL RX10 107 3 2 := ⟨_, _, _, rfl, gt_RX4, by decide, by decide, by decide, gt_of (List.mem_of_getElem? (i := 299) (by decide +kernel)) rfl⟩
theorem fl_RX10_110 : FL RX10 110 3 0 := ⟨_, _, _, rfl, gt_RX4, by decide, by decide, by decide, gt_of (List.mem_of_getElem? (i := 292) (by decide +kernel)) rfl⟩
theorem fl_RX10_118 : FL RX10 118 3 3 := ⟨_, _, _, rfl, gt_RX4, by decide, by decide, by decide, gt_of (List.mem_of_getElem? (i := 302) (by decide +kernel)) rfl⟩
theorem fl_RX10_122 : FL RX10 122 3 4 := ⟨_, _, _, rfl, gt_RX4, by decide, by decide, by decide, gt_of (List.mem_of_getElem? (i := 306) (by decide +kernel)) rfl⟩
theorem fl_RX10_125 : FL RX10 125 3 6 := ⟨_, _, _, rfl, gt_RX4, by decide, by decide, by decide, gt_of (List.mem_of_getElem? (i := 313) (by decide +kernel)) rfl⟩
theorem fl_RX10_128 : FL RX10 128 3 5 := ⟨_, _, _, rfl, gt_RX4, by decide, by decide, by decide, gt_of (List.mem_of_getElem? (i := 309) (by decide +kernel)) rfl⟩
theorem fl_RX10_138 : FL RX10 138 3 9 := ⟨_, _, _, rfl, gt_RX4, by decide, by decide, by decide, gt_of (List.mem_of_getElem? (i := 320) (by decide +kernel)) rfl⟩
theorem fl_RX10_141 : FL RX10 141 3 10 := ⟨_, _, _, rfl, gt_RX4, by decide, by decide, by decide, gt_of (List.mem_of_getElem? (i := 323) (by decide +kernel)) rfl⟩
theorem fl_RX10_144 : FL RX10 144 5 2 := ⟨_, _, _, rfl, gt_RX6, by decide, by decide, by decide, gt_of (List.mem_of_getElem? (i := 379) (by decide +kernel)) rfl⟩
theorem fl_RX10_153 : FL RX10 153 3 11 := ⟨_, _, _, rfl, gt_RX4, by decide, by decide, by decide, gt_of (List.mem_of_getElem? (i := 325) (by decide +kernel)) rfl⟩
theorem fl_RX10_159 : FL RX10 159 3 12 := ⟨_, _, _, rfl, gt_RX4, by decide, by decide, by decide, gt_of (List.mem_of_getElem? (i := 327) (by decide +kernel)) rfl⟩
theorem fl_RX10_177 : FL RX10 177 3 13 := ⟨_, _, _, rfl, gt_RX4, by decide, by decide, by decide, gt_of (List.mem_of_getElem? (i := 331) (by decide +kernel)) rfl⟩
theorem fl_RX10_180 : FL RX10 180 3 14 := ⟨_, _, _, rfl, gt_RX4, by decide, by decide, by decide, gt_of (List.mem_of_getElem? (i := 333) (by decide +kernel)) rfl⟩
theorem fl_RX10_183 : FL RX10 183 3 15 := ⟨_, _, _, rfl, gt_RX4, by decide, by decide, by decide, gt_of (List.mem_of_getElem? (i := 335) (by decide +kernel)) rfl⟩
theorem fl_RX10_186 : FL RX10 186 5 4 := ⟨_, _, _, rfl, gt_RX6, by decide, by decide, by decide, gt_of (List.mem_of_getElem? (i := 383) (by decide +kernel)) rfl⟩
theorem fl_RX10_210 : FL RX10 210 8 1 := ⟨_, _, _, rfl, gt_RX9, by decide, by decide, by decide, gt_of (List.mem_of_getElem? (i := 266) (by decide +kernel)) rfl⟩
theorem fl_RX10_213 : FL RX10 213 8 2 := ⟨_, _, _, rfl, gt_RX9, by decide, by decide, by decide, gt_of (List.mem_of_getElem? (i := 268) (by decide +kernel)) rfl⟩
theorem fl_RX10_216 : FL RX10 216 8 3 := ⟨_, _, _, rfl, gt_RX9, by decide, by decide, by decide, gt_of (List.mem_of_getElem? (i := 270) (by decide +kernel)) rfl⟩
theorem fl_RX10_243 : FL RX10 243 7 2 := ⟨_, _, _, rfl, gt_RX8, by decide, by decide, by decide, gt_of (List.mem_of_getElem? (i := 231) (by decide +kernel)) rfl⟩
theorem fl_RX10_325 : FL RX10 325 3 1 := ⟨_, _, _, rfl, gt_RX4, by decide, by decide, by decide, gt_of (List.mem_of_getElem? (i := 297) (by decide +kernel)) rfl⟩
theorem fl_RX10_328 : FL RX10 328 5 1 := ⟨_, _, _, rfl, gt_RX6, by decide, by decide, by decide, gt_of (List.mem_of_getElem? (i := 377) (by decide +kernel)) rfl⟩
theorem fl_RX10_334 : FL RX10 334 5 5 := ⟨_, _, _, rfl, gt_RX6, by decide, by decide, by decide, gt_of (List.mem_of_getElem? (i := 386) (by decide +kernel)) rfl⟩
theorem fl_RX11_7 : FL RX11 7 10 2 := ⟨_, _, _, rfl, gt_RX11, by decide, by decide, by decide, gt_of (List.mem_of_getElem? (i := 1303) (by decide +kernel)) rfl⟩
theorem fl_RX11_13 : FL RX11 13 10 10 := ⟨_, _, _, rfl, gt_RX11, by decide, by decide, by decide, gt_of (List.mem_of_getElem? (i := 1311) (by decide +kernel)) rfl⟩
theorem fl_RX11_16 : FL RX11 16 10 11 := ⟨_, _, _, rfl, gt_RX11, by decide, by decide, by decide, gt_of (List.mem_of_getElem? (i := 1312) (by decide +kernel)) rfl⟩
theorem fl_RX11_19 : FL RX11 19 10 12 := ⟨_, _, _, rfl, gt_RX11, by decide, by decide, by decide, gt_of (List.mem_of_getElem? (i := 1313) (by decide +kernel)) rfl⟩
theorem fl_RX11_22 : FL RX11 22 10 13 := ⟨_, _, _, rfl, gt_RX11, by decide, by decide, by decide, gt_of (List.mem_of_getElem? (i := 1314) (by decide +kernel)) rfl⟩
theorem fl_RX11_25 : FL RX11 25 10 14 := ⟨_, _, _, rfl, gt_RX11, by decide, by decide, by decide, gt_of (List.mem_of_getElem? (i := 1315) (by decide +kernel)) rfl⟩
theorem fl_RX11_28 : FL RX11 28 10 15 := ⟨_, _, _, rfl, gt_RX11, by decide, by decide, by decide, gt_of (List.mem_of_getElem? (i := 1316) (by decide +kernel)) rfl⟩
theorem fl_RX11_31 : FL RX11 31 10 16 := ⟨_, _, _, rfl, gt_RX11, by decide, by decide, by decide, gt_of (List.mem_of_getElem? (i := 1317) (by decide +kernel)) rfl⟩
theorem fl_RX11_34 : FL RX11 34 10 19 := ⟨_, _, _, rfl, gt_RX11, by decide, by decide, by decide, gt_of (List.mem_of_getElem? (i := 1320) (by decide +kernel)) rfl⟩
theorem fl_RX11_37 : FL RX11 37 10 20 := ⟨_, _, _, rfl, gt_RX11, by decide, by decide, by decide, gt_of (List.mem_of_getElem? (i := 1321) (by decide +kernel)) rfl⟩
theorem fl_RX11_41 : FL RX11 41 10 21 := ⟨_, _, _, rfl, gt_RX11, by decide, by decide, by decide, gt_of (List.mem_of_getElem? (i := 1322) (by decide +kernel)) rfl⟩
theorem fl_RX11_44 : FL RX11 44 10 22 := ⟨_, _, _, rfl, gt_RX11, by decide, by decide, by decide, gt_of (List.mem_of_getElem? (i := 1323) (by decide +kernel)) rfl⟩
theorem fl_RX11_47 : FL RX11 47 10 23 := ⟨_, _, _, rfl, gt_RX11, by decide, by decide, by decide, gt_of (List.mem_of_getElem? (i := 1324) (by decide +kernel)) rfl⟩
theorem fl_RX11_50 : FL RX11 50 10 24 := ⟨_, _, _, rfl, gt_RX11, by decide, by decide, by decide, gt_of (List.mem_of_getElem? (i := 1325) (by decide +kernel)) rfl⟩
theorem fl_RX11_53 : FL RX11 53 10 25 := ⟨_, _, _, rfl, gt_RX11, by decide, by decide, by decide, gt_of (List.mem_of_getElem? (i := 1326) (by decide +kernel)) rfl⟩
theorem fl_RX11_56 : FL RX11 56 10 26 := ⟨_, _, _, rfl, gt_RX11, by decide, by decide, by decide, gt_of (List.mem_of_getElem? (i := 1327) (by decide +kernel)) rfl⟩
theorem fl_RX11_59 : FL RX11 59 10 27 := ⟨_, _, _, rfl, gt_RX11, by decide, by decide, by decide, gt_of (List.mem_of_getElem? (i := 1328) (by decide +kernel)) rfl⟩
theorem fl_RX11_62 : FL RX11 62 10 28 := ⟨_, _, _, rfl, gt_RX11, by decide, by decide, by decide, gt_of (List.mem_of_getElem? (i := 1329) (by decide +kernel)) rfl⟩
theorem fl_RX11_65 : FL RX11 65 10 29 := ⟨_, _, _, rfl, gt_RX11, by decide, by decide, by decide, gt_of (List.mem_of_getElem? (i := 1330) (by decide +kernel)) rfl⟩
theorem fl_RX11_68 : FL RX11 68 10 30 := ⟨_, _, _, rfl, gt_RX11, by decide, by decide, by decide, gt_of (List.mem_of_getElem? (i := 1331) (by decide +kernel)) rfl⟩
theorem fl_RX11_71 : FL RX11 71 10 32 := ⟨_, _, _, rfl, gt_RX11, by decide, by decide, by decide, gt_of (List.mem_of_getElem? (i := 1333) (by decide +kernel)) rfl⟩
theorem fl_RX11_74 : FL RX11 74 10 33 := ⟨_, _, _, rfl, gt_RX11, by decide, by decide, by decide, gt_of (List.mem_of_getElem? (i := 1334) (by decide +kernel)) rfl⟩
theorem fl_RX11_77 : FL RX11 77 10 34 := ⟨_, _, _, rfl, gt_RX11, by decide, by decide, by decide, gt_of (List.mem_of_getElem? (i := 1335) (by decide +kernel)) rfl⟩
theorem fl_RX11_80 : FL RX11 80 10 35 := ⟨_, _, _, rfl, gt_RX11, by decide, by decide, by decide, gt_of (List.mem_of_getElem? (i := 1336) (by decide +kernel)) rfl⟩
theorem fl_RX11_83 : FL RX11 83 10 36 := ⟨_, _, _, rfl, gt_RX11, by decide, by decide, by decide, gt_of (List.mem_of_getElem? (i := 1337) (by decide +kernel)) rfl⟩
theorem fl_RX11_86 : FL RX11 86 10 37 := ⟨_, _, _, rfl, gt_RX11, by decide, by decide, by decide, gt_of (List.mem_of_getElem? (i := 1338) (by decide +kernel)) rfl⟩
theorem fl_RX11_89 : FL RX11 89 10 38 := ⟨_, _, _, rfl, gt_RX11, by decide, by decide, by decide, gt_of (List.mem_of_getElem? (i := 1339) (by decide +kernel)) rfl⟩
theorem fl_RX11_92 : FL RX11 92 10 39 := ⟨_, _, _, rfl, gt_RX11, by decide, by decide, by decide, gt_of (List.mem_of_getElem? (i := 1340) (by decide +kernel)) rfl⟩
theorem fl_RX11_95 : FL RX11 95 10 40 := ⟨_, _, _, rfl, gt_RX11, by decide, by decide, by decide, gt_of (List.mem_of_getElem? (i := 1341) (by decide +kernel)) rfl⟩
theorem fl_RX11_98 : FL RX11 98 10 41 := ⟨_, _, _, rfl, gt_RX11, by decide, by decide, by decide, gt_of (List.mem_of_getElem? (i := 1342) (by decide +kernel)) rfl⟩
theorem fl_RX11_101 : FL RX11 101 10 42 := ⟨_, _, _, rfl, gt_RX11, by decide, by decide, by decide, gt_of (List.mem_of_getElem? (i := 1343) (by decide +kernel)) rfl⟩
theorem fl_RX11_104 : FL RX11 104 10 43 := ⟨_, _, _, rfl, gt_RX11, by decide, by decide, by decide, gt_of (List.mem_of_getElem? (i := 1344) (by decide +kernel)) rfl⟩
theorem fl_RX11_107 : FL RX11 107 10 44 := ⟨_, _, _, rfl, gt_RX11, by decide, by decide, by decide, gt_of (List.mem_of_getElem? (i := 1345) (by decide +kernel)) rfl⟩
theorem fl_RX11_110 : FL RX11 110 10 45 := ⟨_, _, _, rfl, gt_RX11, by decide, by decide, by decide, gt_of (List.mem_of_getElem? (i := 1346) (by decide +kernel)) rfl⟩
theorem fl_RX11_113 : FL RX11 113 10 46 := ⟨_, _, _, rfl, gt_RX11, by decide, by decide, by decide, gt_of (List.mem_of_getElem? (i := 1347) (by decide +kernel)) rfl⟩
theorem fl_RX11_116 : FL RX11 116 10 47 := ⟨_, _, _, rfl, gt_RX11, by decide, by decide, by decide, gt_of (List.mem_of_getElem? (i := 1348) (by decide +kernel)) rfl⟩
theorem fl_RX11_119 : FL RX11 119 10 48 := ⟨_, _, _, rfl, gt_RX11, by decide, by decide, by decide, gt_of (List.mem_of_getElem? (i := 1349) (by decide +kernel)) rfl⟩
theorem fl_RX11_122 : FL RX11 122 10 49 := ⟨_, _, _, rfl, gt_RX11, by decide, by decide, by decide, gt_of (List.mem_of_getElem? (i := 1350) (by decide +kernel)) rfl⟩
theorem fl_RX11_125 : FL RX11 125 10 50 := ⟨_, _, _, rfl, gt_RX11, by decide, by decide, by decide, gt_of (List.mem_of_getElem? (i := 1351) (by decide +kernel)) rfl⟩
theorem fl_RX11_128 : FL RX11 128 10 51 := ⟨_, _, _, rfl, gt_RX11, by decide, by decide, by decide, gt_of (List.mem_of_getElem? (i := 1352) (by decide +kernel)) rfl⟩
theorem fl_RX11_131 : FL RX11 131 10 52 := ⟨_, _, _, rfl, gt_RX11, by decide, by decide, by decide, gt_of (List.mem_of_getElem? (i := 1353) (by decide +kernel)) rfl⟩
theorem fl_RX11_134 : FL RX11 134 10 53 := ⟨_, _, _, rfl, gt_RX11, by decide, by decide, by decide, gt_of (List.mem_of_getElem? (i := 1354) (by decide +kernel)) rfl⟩
theorem fl_RX11_137 : FL RX11 137 10 54 := ⟨_, _, _, rfl, gt_RX11, by decide, by decide, by decide, gt_of (List.mem_of_getElem? (i := 1355) (by decide +kernel)) rfl⟩
theorem fl_RX11_140 : FL RX11 140 10 55 := ⟨_, _, _, rfl, gt_RX11, by decide, by decide, by decide, gt_of (List.mem_of_getElem? (i := 1356) (by decide +kernel)) rfl⟩
theorem fl_RX11_143 : FL RX11 143 10 56 := ⟨_, _, _, rfl, gt_RX11, by decide, by decide, by decide, gt_of (List.mem_of_getElem? (i := 1357) (by decide +kernel)) rfl⟩
theorem fl_RX11_146 : FL RX11 146 10 57 := ⟨_, _, _, rfl, gt_RX11, by decide, by decide, by decide, gt_of (List.mem_of_getElem? (i := 1358) (by decide +kernel)) rfl⟩
theorem fl_RX11_152 : FL RX11 152 10 0 := ⟨_, _, _, rfl, gt_RX11, by decide, by decide, by decide, gt_of (List.mem_of_getElem? (i := 1301) (by decide +kernel)) rfl⟩
theorem fl_RX11_158 : FL RX11 158 10 1 := ⟨_, _, _, rfl, gt_RX11, by decide, by decide, by decide, gt_of (List.mem_of_getElem? (i := 1302) (by decide +kernel)) rfl⟩
theorem fl_RX11_161 : FL RX11 161 10 3 := ⟨_, _, _, rfl, gt_RX11, by decide, by decide, by decide, gt_of (List.mem_of_getElem? (i := 1304) (by decide +kernel)) rfl⟩
theorem fl_RX11_164 : FL RX11 164 10 4 := ⟨_, _, _, rfl, gt_RX11, by decide, by decide, by decide, gt_of (List.mem_of_getElem? (i := 1305) (by decide +kernel)) rfl⟩
theorem fl_RX11_167 : FL RX11 167 10 5 := ⟨_, _, _, rfl, gt_RX11, by decide, by decide, by decide, gt_of (List.mem_of_getElem? (i := 1306) (by decide +kernel)) rfl⟩
theorem fl_RX11_170 : FL RX11 170 10 7 := ⟨_, _, _, rfl, gt_RX11, by decide, by decide, by decide, gt_of (List.mem_of_getElem? (i := 1308) (by decide +kernel)) rfl⟩
theorem fl_RX11_174 : FL RX11 174 10 8 := ⟨_, _, _, rfl, gt_RX11, by decide, by decide, by decide, gt_of (List.mem_of_getElem? (i := 1309) (by decide +kernel)) rfl⟩
theorem fl_RX11_177 : FL RX11 177 10 6 := ⟨_, _, _, rfl, gt_RX11, by decide, by decide, by decide, gt_of (List.mem_of_getElem? (i := 1307) (by decide +kernel)) rfl⟩
theorem fl_RX11_188 : FL RX11 188 10 9 := ⟨_, _, _, rfl, gt_RX11, by decide, by decide, by decide, gt_of (List.mem_of_getElem? (i := 1310) (by decide +kernel)) rfl⟩
theorem fl_RX11_191 : FL RX11 191 10 17 := ⟨_, _, _, rfl, gt_RX11, by decide, by decide, by decide, gt_of (List.mem_of_getElem? (i := 1318) (by decide +kernel)) rfl⟩
theorem fl_RX11_243 : FL RX11 243 10 31 := ⟨_, _, _, rfl, gt_RX11, by decide, by decide, by decide, gt_of (List.mem_of_getElem? (i := 1332) (by decide +kernel)) rfl⟩
theorem fl_RX11_254 : FL RX11 254 10 18 := ⟨_, _, _, rfl, gt_RX11, by decide, by decide, by decide, gt_of (List.mem_of_getElem? (i := 1319) (by decide +kernel)) rfl⟩
theorem fl_RX11_484 : FL RX11 484 10 58 := ⟨_, _, _, rfl, gt_RX11, by decide, by decide, by decide, gt_of (List.mem_of_getElem? (i := 1359) (by decide +kernel)) rfl⟩
theorem fl_RX2_7 : FL RX2 7 1 0 := ⟨_, _, _, rfl, gt_RX2, by decide, by decide, by decide, gt_of (List.mem_of_getElem? (i := 1186) (by decide +kernel)) rfl⟩
theorem fl_RX3_9 : FL RX3 9 2 0 := ⟨_, _, _, rfl, gt_RX3, by decide, by decide, by decide, gt_of (List.mem_of_getElem? (i := 205) (by decide +kernel)) rfl⟩
theorem fl_RX3_15 : FL RX3 15 2 2 := ⟨_, _, _, rfl, gt_RX3, by decide, by decide, by decide, gt_of (List.mem_of_getElem? (i := 209) (by decide +kernel)) rfl⟩
theorem fl_RX3_18 : FL RX3 18 2 1 := ⟨_, _, _, rfl, gt_RX3, by decide, by decide, by decide, gt_of (List.mem_of_getElem? (i := 206) (by decide +kernel)) rfl⟩
theorem fl_RX3_22 : FL RX3 22 2 3 := ⟨_, _, _, rfl, gt_RX3, by decide, by decide, by decide, gt_of (List.mem_of_getElem? (i := 210) (by decide +kernel)) rfl⟩
theorem fl_RX4_9 : FL RX4 9 3 3 := ⟨_, _, _, rfl, gt_RX4, by decide, by decide, by decide, gt_of (List.mem_of_getElem? (i := 301) (by decide +kernel)) rfl⟩
theorem fl_RX4_15 : FL RX4 15 3 4 := ⟨_, _, _, rfl, gt_RX4, by decide, by decide, by decide, gt_of (List.mem_of_getElem? (i := 305) (by decide +kernel)) rfl⟩
theorem fl_RX4_18 : FL RX4 18 3 5 := ⟨_, _, _, rfl, gt_RX4, by decide, by decide, by decide, gt_of (List.mem_of_getElem? (i := 308) (by decide +kernel)) rfl⟩
theorem fl_RX4_21 : FL RX4 21 3 6 := ⟨_, _, _, rfl, gt_RX4, by decide, by decide, by decide, gt_of (List.mem_of_getElem? (i := 310) (by decide +kernel)) rfl⟩
theorem fl_RX4_24 : FL RX4 24 3 7 := ⟨_, _, _, rfl, gt_RX4, by decide, by decide, by decide, gt_of (List.mem_of_getElem? (i := 314) (by decide +kernel)) rfl⟩
theorem fl_RX4_27 : FL RX4 27 3 8 := ⟨_, _, _, rfl, gt_RX4, by decide, by decide, by decide, gt_of (List.mem_of_getElem? (i := 316) (by decide +kernel)) rfl⟩
theorem fl_RX4_30 : FL RX4 30 3 9 := ⟨_, _, _, rfl, gt_RX4, by decide, by decide, by decide, gt_of (List.mem_of_getElem? (i := 318) (by decide +kernel)) rfl⟩
theorem fl_RX4_33 : FL RX4 33 3 10 := ⟨_, _, _, rfl, gt_RX4, by decide, by decide, by decide, gt_of (List.mem_of_getElem? (i := 321) (by decide +kernel)) rfl⟩
theorem fl_RX4_36 : FL RX4 36 3 11 := ⟨_, _, _, rfl, gt_RX4, by decide, by decide, by decide, gt_of (List.mem_of_getElem? (i := 324) (by decide +kernel)) rfl⟩
theorem fl_RX4_39 : FL RX4 39 3 12 := ⟨_, _, _, rfl, gt_RX4, by decide, by decide, by decide, gt_of (List.mem_of_getElem? (i := 326) (by decide +kernel)) rfl⟩
theorem fl_RX4_42 : FL RX4 42 3 13 := ⟨_, _, _, rfl, gt_RX4, by decide, by decide, by decide, gt_of (List.mem_of_getElem? (i := 330) (by decide +kernel)) rfl⟩
theorem fl_RX4_45 : FL RX4 45 3 14 := ⟨_, _, _, rfl, gt_RX4, by decide, by decide, by decide, gt_of (List.mem_of_getElem? (i := 332) (by decide +kernel)) rfl⟩
theorem fl_RX4_48 : FL RX4 48 3 15 := ⟨_, _, _, rfl, gt_RX4, by decide, by decide, by decide, gt_of (List.mem_of_getElem? (i := 334) (by decide +kernel)) rfl⟩
theorem fl_RX4_55 : FL RX4 55 7 2 := ⟨_, _, _, rfl, gt_RX8, by decide, by decide, by decide, gt_of (List.mem_of_getElem? (i := 227) (by decide +kernel)) rfl⟩
theorem fl_RX4_72 : FL RX4 72 3 1 := ⟨_, _, _, rfl, gt_RX4, by decide, by decide, by decide, gt_of (List.mem_of_getElem? (i := 295) (by decide +kernel)) rfl⟩
theorem fl_RX4_78 : FL RX4 78 3 0 := ⟨_, _, _, rfl, gt_RX4, by decide, by decide, by decide, gt_of (List.mem_of_getElem? (i := 291) (by decide +kernel)) rfl⟩
theorem fl_RX4_81 : FL RX4 81 3 2 := ⟨_, _, _, rfl, gt_RX4, by decide, by decide, by decide, gt_of (List.mem_of_getElem? (i := 298) (by decide +kernel)) rfl⟩
theorem fl_RX4_84 : FL RX4 84 7 4 := ⟨_, _, _, rfl, gt_RX8, by decide, by decide, by decide, gt_of (List.mem_of_getElem? (i := 236) (by decide +kernel)) rfl⟩
theorem fl_RX4_89 : FL RX4 89 7 6 := ⟨_, _, _, rfl, gt_RX8, by decide, by decide, by decide, gt_of (List.mem_of_getElem? (i := 241) (by decide +kernel)) rfl⟩
theorem fl_RX5_9 : FL RX5 9 4 2 := ⟨_, _, _, rfl, gt_RX5, by decide, by decide, by decide, gt_of (List.mem_of_getElem? (i := 417) (by decide +kernel)) rfl⟩
theorem fl_RX5_15 : FL RX5 15 4 0 := ⟨_, _, _, rfl, gt_RX5, by decide, by decide, by decide, gt_of (List.mem_of_getElem? (i := 415) (by decide +kernel)) rfl⟩
theorem fl_RX5_19 : FL RX5 19 4 1 := ⟨_, _, _, rfl, gt_RX5, by decide, by decide, by decide, gt_of (List.mem_of_getElem? (i := 416) (by decide +kernel)) rfl⟩
theorem fl_RX5_23 : FL RX5 23 3 1 := ⟨_, _, _, rfl, gt_RX4, by decide, by decide, by decide, gt_of (List.mem_of_getElem? (i := 294) (by decide +kernel)) rfl⟩
theorem fl_RX5_49 : FL RX5 49 3 6 := ⟨_, _, _, rfl, gt_RX4, by decide, by decide, by decide, gt_of (List.mem_of_getElem? (i := 311) (by decide +kernel)) rfl⟩
theorem fl_RX5_56 : FL RX5 56 3 8 := ⟨_, _, _, rfl, gt_RX4, by decide, by decide, by decide, gt_of (List.mem_of_getElem? (i := 317) (by decide +kernel)) rfl⟩
theorem fl_RX5_76 : FL RX5 76 3 0 := ⟨_, _, _, rfl, gt_RX4, by decide, by decide, by decide, gt_of (List.mem_of_getElem? (i := 293) (by decide +kernel)) rfl⟩
theorem fl_RX5_82 : FL RX5 82 3 12 := ⟨_, _, _, rfl, gt_RX4, by decide, by decide, by decide, gt_of (List.mem_of_getElem? (i := 328) (by decide +kernel)) rfl⟩
theorem fl_RX5_85 : FL RX5 85 5 2 := ⟨_, _, _, rfl, gt_RX6, by decide, by decide, by decide, gt_of (List.mem_of_getElem? (i := 380) (by decide +kernel)) rfl⟩
theorem fl_RX5_91 : FL RX5 91 3 3 := ⟨_, _, _, rfl, gt_RX4, by decide, by decide, by decide, gt_of (List.mem_of_getElem? (i := 304) (by decide +kernel)) rfl⟩
theorem fl_RX5_97 : FL RX5 97 5 5 := ⟨_, _, _, rfl, gt_RX6, by decide, by decide, by decide, gt_of (List.mem_of_getElem? (i := 385) (by decide +kernel)) rfl⟩
theorem fl_RX5_100 : FL RX5 100 5 7 := ⟨_, _, _, rfl, gt_RX6, by decide, by decide, by decide, gt_of (List.mem_of_getElem? (i := 390) (by decide +kernel)) rfl⟩
theorem fl_RX5_103 : FL RX5 103 5 6 := ⟨_, _, _, rfl, gt_RX6, by decide, by decide, by decide, gt_of (List.mem_of_getElem? (i := 388) (by decide +kernel)) rfl⟩
theorem fl_RX5_114 : FL RX5 114 3 2 := ⟨_, _, _, rfl, gt_RX4, by decide, by decide, by decide, gt_of (List.mem_of_getElem? (i := 300) (by decide +kernel)) rfl⟩
theorem fl_RX6_9 : FL RX6 9 5 2 := ⟨_, _, _, rfl, gt_RX6, by decide, by decide, by decide, gt_of (List.mem_of_getElem? (i := 378) (by decide +kernel)) rfl⟩
theorem fl_RX6_15 : FL RX6 15 5 3 := ⟨_, _, _, rfl, gt_RX6, by decide, by decide, by decide, gt_of (List.mem_of_getElem? (i := 381) (by decide +kernel)) rfl⟩
theorem fl_RX6_18 : FL RX6 18 5 4 := ⟨_, _, _, rfl, gt_RX6, by decide, by decide, by decide, gt_of (List.mem_of_getElem? (i := 382) (by decide +kernel)) rfl⟩
theorem fl_RX6_21 : FL RX6 21 5 6 := ⟨_, _, _, rfl, gt_RX6, by decide, by decide, by decide, gt_of (List.mem_of_getElem? (i := 387) (by decide +kernel)) rfl⟩
theorem fl_RX6_24 : FL RX6 24 5 0 := ⟨_, _, _, rfl, gt_RX6, by decide, by decide, by decide, gt_of (List.mem_of_getElem? (i := 375) (by decide +kernel)) rfl⟩
theorem fl_RX6_28 : FL RX6 28 3 0 := ⟨_, _, _, rfl, gt_RX4, by decide, by decide, by decide, gt_of (List.mem_of_getElem? (i := 290) (by decide +kernel)) rfl⟩
theorem fl_RX6_34 : FL RX6 34 5 1 := ⟨_, _, _, rfl, gt_RX6, by decide, by decide, by decide, gt_of (List.mem_of_getElem? (i := 376) (by decide +kernel)) rfl⟩
theorem fl_RX6_37 : FL RX6 37 5 5 := ⟨_, _, _, rfl, gt_RX6, by decide, by decide, by decide, gt_of (List.mem_of_getElem? (i := 384) (by decide +kernel)) rfl⟩
theorem fl_RX6_40 : FL RX6 40 5 7 := ⟨_, _, _, rfl, gt_RX6, by decide, by decide, by decide, gt_of (List.mem_of_getElem? (i := 389) (by decide +kernel)) rfl⟩
theorem fl_RX6_49 : FL RX6 49 3 9 := ⟨_, _, _, rfl, gt_RX4, by decide, by decide, by decide, gt_of (List.mem_of_getElem? (i := 319) (by decide +kernel)) rfl⟩
theorem fl_RX6_52 : FL RX6 52 3 6 := ⟨_, _, _, rfl, gt_RX4, by decide, by decide, by decide, gt_of (List.mem_of_getElem? (i := 312) (by decide +kernel)) rfl⟩
theorem fl_RX6_55 : FL RX6 55 3 10 := ⟨_, _, _, rfl, gt_RX4, by decide, by decide, by decide, gt_of (List.mem_of_getElem? (i := 322) (by decide +kernel)) rfl⟩
theorem fl_RX6_58 : FL RX6 58 3 7 := ⟨_, _, _, rfl, gt_RX4, by decide, by decide, by decide, gt_of (List.mem_of_getElem? (i := 315) (by decide +kernel)) rfl⟩
theorem fl_RX6_61 : FL RX6 61 3 3 := ⟨_, _, _, rfl, gt_RX4, by decide, by decide, by decide, gt_of (List.mem_of_getElem? (i := 303) (by decide +kernel)) rfl⟩
theorem fl_RX6_76 : FL RX6 76 3 1 := ⟨_, _, _, rfl, gt_RX4, by decide, by decide, by decide, gt_of (List.mem_of_getElem? (i := 296) (by decide +kernel)) rfl⟩
theorem fl_RX6_82 : FL RX6 82 3 4 := ⟨_, _, _, rfl, gt_RX4, by decide, by decide, by decide, gt_of (List.mem_of_getElem? (i := 307) (by decide +kernel)) rfl⟩
theorem fl_RX6_93 : FL RX6 93 3 12 := ⟨_, _, _, rfl, gt_RX4, by decide, by decide, by decide, gt_of (List.mem_of_getElem? (i := 329) (by decide +kernel)) rfl⟩
theorem fl_RX7_9 : FL RX7 9 6 0 := ⟨_, _, _, rfl, gt_RX7, by decide, by decide, by decide, gt_of (List.mem_of_getElem? (i := 151) (by decide +kernel)) rfl⟩
theorem fl_RX7_15 : FL RX7 15 6 1 := ⟨_, _, _, rfl, gt_RX7, by decide, by decide, by decide, gt_of (List.mem_of_getElem? (i := 153) (by decide +kernel)) rfl⟩
theorem fl_RX7_19 : FL RX7 19 6 6 := ⟨_, _, _, rfl, gt_RX7, by decide, by decide, by decide, gt_of (List.mem_of_getElem? (i := 163) (by decide +kernel)) rfl⟩
theorem fl_RX7_22 : FL RX7 22 6 4 := ⟨_, _, _, rfl, gt_RX7, by decide, by decide, by decide, gt_of (List.mem_of_getElem? (i := 158) (by decide +kernel)) rfl⟩
theorem fl_RX7_28 : FL RX7 28 6 3 := ⟨_, _, _, rfl, gt_RX7, by decide, by decide, by decide, gt_of (List.mem_of_getElem? (i := 157) (by decide +kernel)) rfl⟩
theorem fl_RX7_31 : FL RX7 31 6 5 := ⟨_, _, _, rfl, gt_RX7, by decide, by decide, by decide, gt_of (List.mem_of_getElem? (i := 159) (by decide +kernel)) rfl⟩
theorem fl_RX7_34 : FL RX7 34 6 2 := ⟨_, _, _, rfl, gt_RX7, by decide, by decide, by decide, gt_of (List.mem_of_getElem? (i := 156) (by decide +kernel)) rfl⟩
theorem fl_RX8_9 : FL RX8 9 7 3 := ⟨_, _, _, rfl, gt_RX8, by decide, by decide, by decide, gt_of (List.mem_of_getElem? (i := 232) (by decide +kernel)) rfl⟩
theorem fl_RX8_15 : FL RX8 15 7 4 := ⟨_, _, _, rfl, gt_RX8, by decide, by decide, by decide, gt_of (List.mem_of_getElem? (i := 235) (by decide +kernel)) rfl⟩
theorem fl_RX8_18 : FL RX8 18 7 5 := ⟨_, _, _, rfl, gt_RX8, by decide, by decide, by decide, gt_of (List.mem_of_getElem? (i := 238) (by decide +kernel)) rfl⟩
theorem fl_RX8_24 : FL RX8 24 7 6 := ⟨_, _, _, rfl, gt_RX8, by decide, by decide, by decide, gt_of (List.mem_of_getElem? (i := 240) (by decide +kernel)) rfl⟩
theorem fl_RX8_32 : FL RX8 32 7 1 := ⟨_, _, _, rfl, gt_RX8, by decide, by decide, by decide, gt_of (List.mem_of_getElem? (i := 225) (by decide +kernel)) rfl⟩
theorem fl_RX9_9 : FL RX9 9 8 1 := ⟨_, _, _, rfl, gt_RX9, by decide, by decide, by decide, gt_of (List.mem_of_getElem? (i := 265) (by decide +kernel)) rfl⟩
theorem fl_RX9_15 : FL RX9 15 8 2 := ⟨_, _, _, rfl, gt_RX9, by decide, by decide, by decide, gt_of (List.mem_of_getElem? (i := 267) (by decide +kernel)) rfl⟩
theorem fl_RX9_18 : FL RX9 18 8 3 := ⟨_, _, _, rfl, gt_RX9, by decide, by decide, by decide, gt_of (List.mem_of_getElem? (i := 269) (by decide +kernel)) rfl⟩
theorem fl_RX9_21 : FL RX9 21 8 0 := ⟨_, _, _, rfl, gt_RX9, by decide, by decide, by decide, gt_of (List.mem_of_getElem? (i := 264) (by decide +kernel)) rfl⟩
theorem fl_RX9_25 : FL RX9 25 8 4 := ⟨_, _, _, rfl, gt_RX9, by decide, by decide, by decide, gt_of (List.mem_of_getElem? (i := 271) (by decide +kernel)) rfl⟩
theorem fl_RX9_34 : FL RX9 34 6 6 := ⟨_, _, _, rfl, gt_RX7, by decide, by decide, by decide, gt_of (List.mem_of_getElem? (i := 161) (by decide +kernel)) rfl⟩
theorem fl_RX9_37 : FL RX9 37 6 2 := ⟨_, _, _, rfl, gt_RX7, by decide, by decide, by decide, gt_of (List.mem_of_getElem? (i := 154) (by decide +kernel)) rfl⟩
theorem pl_RX0_64 : PL RX0 64 7 0 .int := ⟨_, _, _, rfl, gt_RX8, by decide, by decide, by decide, gt_of (List.mem_of_getElem? (i := 222) (by decide +kernel)) rfl, ⟨tyX8, tyX8_ok⟩, nmX8, rfl, by decide +kernel⟩
theorem pl_RX0_77 : PL RX0 77 7 1 .int := ⟨_, _, _, rfl, gt_RX8, by decide, by decide, by decide, gt_of (List.mem_of_getElem? (i := 226) (by decide +kernel)) rfl, ⟨tyX8, tyX8_ok⟩, nmX8, rfl, by decide +kernel⟩
theorem pl_RX0_92 : PL RX0 92 7 2 .int := ⟨_, _, _, rfl, gt_RX8, by decide, by decide, by decide, gt_of (List.mem_of_getElem? (i := 230) (by decide +kernel)) rfl, ⟨tyX8, tyX8_ok⟩, nmX8, rfl, by decide +kernel⟩
theorem pl_RX11_152 : PL RX11 152 10 0 .int := ⟨_, _, _, rfl, gt_RX11, by decide, by decide, by decide, gt_of (List.mem_of_getElem? (i := 1301) (by decide +kernel)) rfl, ⟨tyX11, tyX11_ok⟩, nmX11, rfl, by decide +kernel⟩
theorem pl_RX11_158 : PL RX11 158 10 1 .int := ⟨_, _, _, rfl, gt_RX11, by decide, by decide, by decide, gt_of (List.mem_of_getElem? (i := 1302) (by decide +kernel)) rfl, ⟨tyX11, tyX11_ok⟩, nmX11, rfl, by decide +kernel⟩
theorem pl_RX11_161 : PL RX11 161 10 3 .int := ⟨_, _, _, rfl, gt_RX11, by decide, by decide, by decide, gt_of (List.mem_of_getElem? (i := 1304) (by decide +kernel)) rfl, ⟨tyX11, tyX11_ok⟩, nmX11, rfl, by decide +kernel⟩
theorem pl_RX11_164 : PL RX11 164 10 4 .int := ⟨_, _, _, rfl, gt_RX11, by decide, by decide, by decide, gt_of (List.mem_of_getElem? (i := 1305) (by decide +kernel)) rfl, ⟨tyX11, tyX11_ok⟩, nmX11, rfl, by decide +kernel⟩
theorem pl_RX11_167 : PL RX11 167 10 5 .int := ⟨_, _, _, rfl, gt_RX11, by decide, by decide, by decide, gt_of (List.mem_of_getElem? (i := 1306) (by decide +kernel)) rfl, ⟨tyX11, tyX11_ok⟩, nmX11, rfl, by decide +kernel⟩
theorem pl_RX11_170 : PL RX11 170 10 7 .long := ⟨_, _, _, rfl, gt_RX11, by decide, by decide, by decide, gt_of (List.mem_of_getElem? (i := 1308) (by decide +kernel)) rfl, ⟨tyX11, tyX11_ok⟩, nmX11, rfl, by decide +kernel⟩
theorem pl_RX11_174 : PL RX11 174 10 8 .int := ⟨_, _, _, rfl, gt_RX11, by decide, by decide, by decide, gt_of (List.mem_of_getElem? (i := 1309) (by decide +kernel)) rfl, ⟨tyX11, tyX11_ok⟩, nmX11, rfl, by decide +kernel⟩
theorem pl_RX11_177 : PL RX11 177 10 6 .int := ⟨_, _, _, rfl, gt_RX11, by decide, by decide, by decide, gt_of (List.mem_of_getElem? (i := 1307) (by decide +kernel)) rfl, ⟨tyX11, tyX11_ok⟩, nmX11, rfl, by decide +kernel⟩
theorem pl_RX11_188 : PL RX11 188 10 9 .int := ⟨_, _, _, rfl, gt_RX11, by decide, by decide, by decide, gt_of (List.mem_of_getElem? (i := 1310) (by decide +kernel)) rfl, ⟨tyX11, tyX11_ok⟩, nmX11, rfl, by decide +kernel⟩
theorem pl_RX11_191 : PL RX11 191 10 17 .int := ⟨_, _, _, rfl, gt_RX11, by decide, by decide, by decide, gt_of (List.mem_of_getElem? (i := 1318) (by decide +kernel)) rfl, ⟨tyX11, tyX11_ok⟩, nmX11, rfl, by decide +kernel⟩
theorem pl_RX11_243 : PL RX11 243 10 31 .int := ⟨_, _, _, rfl, gt_RX11, by decide, by decide, by decide, gt_of (List.mem_of_getElem? (i := 1332) (by decide +kernel)) rfl, ⟨tyX11, tyX11_ok⟩, nmX11, rfl, by decide +kernel⟩
theorem pl_RX11_254 : PL RX11 254 10 18 .boolean := ⟨_, _, _, rfl, gt_RX11, by decide, by decide, by decide, gt_of (List.mem_of_getElem? (i := 1319) (by decide +kernel)) rfl, ⟨tyX11, tyX11_ok⟩, nmX11, rfl, by decide +kernel⟩
theorem pl_RX11_484 : PL RX11 484 10 58 .long := ⟨_, _, _, rfl, gt_RX11, by decide, by decide, by decide, gt_of (List.mem_of_getElem? (i := 1359) (by decide +kernel)) rfl, ⟨tyX11, tyX11_ok⟩, nmX11, rfl, by decide +kernel⟩
theorem pl_RX2_7 : PL RX2 7 1 0 .long := ⟨_, _, _, rfl, gt_RX2, by decide, by decide, by decide, gt_of (List.mem_of_getElem? (i := 1186) (by decide +kernel)) rfl, ⟨tyX2, tyX2_ok⟩, nmX2, rfl, by decide +kernel⟩
theorem pl_RX3_18 : PL RX3 18 2 1 .int := ⟨_, _, _, rfl, gt_RX3, by decide, by decide, by decide, gt_of (List.mem_of_getElem? (i := 206) (by decide +kernel)) rfl, ⟨tyX3, tyX3_ok⟩, nmX3, rfl, by decide +kernel⟩
theorem pl_RX3_22 : PL RX3 22 2 3 .int := ⟨_, _, _, rfl, gt_RX3, by decide, by decide, by decide, gt_of (List.mem_of_getElem? (i := 210) (by decide +kernel)) rfl, ⟨tyX3, tyX3_ok⟩, nmX3, rfl, by decide +kernel⟩
theorem pl_RX4_72 : PL RX4 72 3 1 .int := ⟨_, _, _, rfl, gt_RX4, by decide, by decide, by decide, gt_of (List.mem_of_getElem? (i := 295) (by decide +kernel)) rfl, ⟨tyX4, tyX4_ok⟩, nmX4, rfl, by decide +kernel⟩
theorem pl_RX4_78 : PL RX4 78 3 0 .int := ⟨_, _, _, rfl, gt_RX4, by decide, by decide, by decide, gt_of (List.mem_of_getElem? (i := 291) (by decide +kernel)) rfl, ⟨tyX4, tyX4_ok⟩, nmX4, rfl, by decide +kernel⟩
theorem pl_RX4_81 : PL RX4 81 3 2 .int := ⟨_, _, _, rfl, gt_RX4, by decide, by decide, by decide, gt_of (List.mem_of_getElem? (i := 298) (by decide +kernel)) rfl, ⟨tyX4, tyX4_ok⟩, nmX4, rfl, by decide +kernel⟩
theorem pl_RX6_34 : PL RX6 34 5 1 .int := ⟨_, _, _, rfl, gt_RX6, by decide, by decide, by decide, gt_of (List.mem_of_getElem? (i := 376) (by decide +kernel)) rfl, ⟨tyX6, tyX6_ok⟩, nmX6, rfl, by decide +kernel⟩
theorem pl_RX6_37 : PL RX6 37 5 5 .int := ⟨_, _, _, rfl, gt_RX6, by decide, by decide, by decide, gt_of (List.mem_of_getElem? (i := 384) (by decide +kernel)) rfl, ⟨tyX6, tyX6_ok⟩, nmX6, rfl, by decide +kernel⟩
theorem pl_RX6_40 : PL RX6 40 5 7 .int := ⟨_, _, _, rfl, gt_RX6, by decide, by decide, by decide, gt_of (List.mem_of_getElem? (i := 389) (by decide +kernel)) rfl, ⟨tyX6, tyX6_ok⟩, nmX6, rfl, by decide +kernel⟩
theorem pl_RX7_15 : PL RX7 15 6 1 .int := ⟨_, _, _, rfl, gt_RX7, by decide, by decide, by decide, gt_of (List.mem_of_getElem? (i := 153) (by decide +kernel)) rfl, ⟨tyX7, tyX7_ok⟩, nmX7, rfl, by decide +kernel⟩
theorem pl_RX7_19 : PL RX7 19 6 6 .int := ⟨_, _, _, rfl, gt_RX7, by decide, by decide, by decide, gt_of (List.mem_of_getElem? (i := 163) (by decide +kernel)) rfl, ⟨tyX7, tyX7_ok⟩, nmX7, rfl, by decide +kernel⟩
theorem pl_RX7_22 : PL RX7 22 6 4 .int := ⟨_, _, _, rfl, gt_RX7, by decide, by decide, by decide, gt_of (List.mem_of_getElem? (i := 158) (by decide +kernel)) rfl, ⟨tyX7, tyX7_ok⟩, nmX7, rfl, by decide +kernel⟩
theorem pl_RX7_28 : PL RX7 28 6 3 .int := ⟨_, _, _, rfl, gt_RX7, by decide, by decide, by decide, gt_of (List.mem_of_getElem? (i := 157) (by decide +kernel)) rfl, ⟨tyX7, tyX7_ok⟩, nmX7, rfl, by decide +kernel⟩
theorem pl_RX7_31 : PL RX7 31 6 5 .int := ⟨_, _, _, rfl, gt_RX7, by decide, by decide, by decide, gt_of (List.mem_of_getElem? (i := 159) (by decide +kernel)) rfl, ⟨tyX7, tyX7_ok⟩, nmX7, rfl, by decide +kernel⟩
theorem pl_RX7_34 : PL RX7 34 6 2 .int := ⟨_, _, _, rfl, gt_RX7, by decide, by decide, by decide, gt_of (List.mem_of_getElem? (i := 156) (by decide +kernel)) rfl, ⟨tyX7, tyX7_ok⟩, nmX7, rfl, by decide +kernel⟩
theorem pl_RX8_28 : PL RX8 28 7 0 .int := ⟨_, _, _, rfl, gt_RX8, by decide, by decide, by decide, gt_of (List.mem_of_getElem? (i := 221) (by decide +kernel)) rfl, ⟨tyX8, tyX8_ok⟩, nmX8, rfl, by decide +kernel⟩
theorem pl_RX8_32 : PL RX8 32 7 1 .int := ⟨_, _, _, rfl, gt_RX8, by decide, by decide, by decide, gt_of (List.mem_of_getElem? (i := 225) (by decide +kernel)) rfl, ⟨tyX8, tyX8_ok⟩, nmX8, rfl, by decide +kernel⟩
theorem pl_RX8_35 : PL RX8 35 7 2 .int := ⟨_, _, _, rfl, gt_RX8, by decide, by decide, by decide, gt_of (List.mem_of_getElem? (i := 228) (by decide +kernel)) rfl, ⟨tyX8, tyX8_ok⟩, nmX8, rfl, by decide +kernel⟩
theorem pl_RX8_38 : PL RX8 38 2 1 .int := ⟨_, _, _, rfl, gt_RX3, by decide, by decide, by decide, gt_of (List.mem_of_getElem? (i := 207) (by decide +kernel)) rfl, ⟨tyX3, tyX3_ok⟩, nmX3, rfl, by decide +kernel⟩
theorem pl_RX9_25 : PL RX9 25 8 4 .int := ⟨_, _, _, rfl, gt_RX9, by decide, by decide, by decide, gt_of (List.mem_of_getElem? (i := 271) (by decide +kernel)) rfl, ⟨tyX9, tyX9_ok⟩, nmX9, rfl, by decide +kernel⟩
theorem cw_RJ0_495 : CwS RJ0 495 yJ1_charAt_3b067 cJ1_charAt_3b067 2 (some .char) 2 := ⟨⟨gt_3 (gt_of (List.mem_of_getElem? (i := 599) (by decide +kernel)) rfl) (gt_of (List.mem_of_getElem? (i := 600) (by decide +kernel)) rfl) (gt_of (List.mem_of_getElem? (i := 124) (by decide +kernel)) rfl), gt_of (List.mem_of_getElem? (i := 601) (by decide +kernel)) rfl⟩, by decide +kernel, by decide⟩
theorem cw_RJ0_637 : CwS RJ0 637 yJ1_indexOf_4cfef cJ1_indexOf_4cfef 4 (some .int) 4 := ⟨⟨gt_3 (gt_of (List.mem_of_getElem? (i := 525) (by decide +kernel)) rfl) (gt_of (List.mem_of_getElem? (i := 526) (by decide +kernel)) rfl) (gt_of (List.mem_of_getElem? (i := 124) (by decide +kernel)) rfl), gt_of (List.mem_of_getElem? (i := 527) (by decide +kernel)) rfl⟩, by decide +kernel, by decide⟩
theorem cw_RJ0_1059 : CwS RJ0 1059 yJ3_checkIndex_8e157 cJ3_checkIndex_8e157 3 (some .int) 3 := ⟨⟨gt_3 (gt_of (List.mem_of_getElem? (i := 605) (by decide +kernel)) rfl) (gt_of (List.mem_of_getElem? (i := 606) (by decide +kernel)) rfl) (gt_of (List.mem_of_getElem? (i := 127) (by decide +kernel)) rfl), gt_of (List.mem_of_getElem? (i := 607) (by decide +kernel)) rfl⟩, by decide +kernel, by decide⟩
theorem cw_RJ1_9 : CwS RJ1 9 yJ0_checkIndex_df160 cJ0_checkIndex_df160 2 none 2 := ⟨⟨gt_3 (gt_of (List.mem_of_getElem? (i := 602) (by decide +kernel)) rfl) (gt_of (List.mem_of_getElem? (i := 603) (by decide +kernel)) rfl) (gt_of (List.mem_of_getElem? (i := 123) (by decide +kernel)) rfl), gt_of (List.mem_of_getElem? (i := 604) (by decide +kernel)) rfl⟩, by decide +kernel, by decide⟩
theorem cw_RJ1_88 : CwS RJ1 88 yJ1_canEncode_9a6ad cJ1_canEncode_9a6ad 1 (some .boolean) 1 := ⟨⟨gt_3 (gt_of (List.mem_of_getElem? (i := 528) (by decide +kernel)) rfl) (gt_of (List.mem_of_getElem? (i := 529) (by decide +kernel)) rfl) (gt_of (List.mem_of_getElem? (i := 124) (by decide +kernel)) rfl), gt_of (List.mem_of_getElem? (i := 530) (by decide +kernel)) rfl⟩, by decide +kernel, by decide⟩
theorem cw_RJ1_95 : CwS RJ1 95 yJ1_indexOfChar_4cfef cJ1_indexOfChar_4cfef 6 (some .int) 4 := ⟨⟨gt_3 (gt_of (List.mem_of_getElem? (i := 537) (by decide +kernel)) rfl) (gt_of (List.mem_of_getElem? (i := 538) (by decide +kernel)) rfl) (gt_of (List.mem_of_getElem? (i := 124) (by decide +kernel)) rfl), gt_of (List.mem_of_getElem? (i := 539) (by decide +kernel)) rfl⟩, by decide +kernel, by decide⟩
theorem cw_RX1_9 : CwS RX1 9 yJ6_bitCount_0f7a4 cJ6_bitCount_0f7a4 1 (some .int) 1 := ⟨⟨gt_3 (gt_of (List.mem_of_getElem? (i := 1007) (by decide +kernel)) rfl) (gt_of (List.mem_of_getElem? (i := 1008) (by decide +kernel)) rfl) (gt_of (List.mem_of_getElem? (i := 130) (by decide +kernel)) rfl), gt_of (List.mem_of_getElem? (i := 1009) (by decide +kernel)) rfl⟩, by decide +kernel, by decide⟩
theorem cw_RX1_21 : CwS RX1 21 yX1_ofCycles cX1_ofCycles 4 (some .int) 2 := ⟨⟨gt_3 (gt_of (List.mem_of_getElem? (i := 1020) (by decide +kernel)) rfl) (gt_of (List.mem_of_getElem? (i := 1021) (by decide +kernel)) rfl) (gt_of (List.mem_of_getElem? (i := 129) (by decide +kernel)) rfl), gt_of (List.mem_of_getElem? (i := 1022) (by decide +kernel)) rfl⟩, by decide +kernel, by decide⟩
theorem cw_RX1_43 : CwS RX1 43 yX1_ofSet cX1_ofSet 4 (some .int) 3 := ⟨⟨gt_3 (gt_of (List.mem_of_getElem? (i := 1025) (by decide +kernel)) rfl) (gt_of (List.mem_of_getElem? (i := 1005) (by decide +kernel)) rfl) (gt_of (List.mem_of_getElem? (i := 129) (by decide +kernel)) rfl), gt_of (List.mem_of_getElem? (i := 1006) (by decide +kernel)) rfl⟩, by decide +kernel, by decide⟩
theorem cw_RX1_47 : CwS RX1 47 yX1_firstAlikeFrom cX1_firstAlikeFrom 6 (some .int) 4 := ⟨⟨gt_3 (gt_of (List.mem_of_getElem? (i := 1033) (by decide +kernel)) rfl) (gt_of (List.mem_of_getElem? (i := 1034) (by decide +kernel)) rfl) (gt_of (List.mem_of_getElem? (i := 129) (by decide +kernel)) rfl), gt_of (List.mem_of_getElem? (i := 1035) (by decide +kernel)) rfl⟩, by decide +kernel, by decide⟩
theorem cw_RX1_51 : CwS RX1 51 yX1_areAlike cX1_areAlike 4 (some .boolean) 2 := ⟨⟨gt_3 (gt_of (List.mem_of_getElem? (i := 1036) (by decide +kernel)) rfl) (gt_of (List.mem_of_getElem? (i := 1037) (by decide +kernel)) rfl) (gt_of (List.mem_of_getElem? (i := 129) (by decide +kernel)) rfl), gt_of (List.mem_of_getElem? (i := 1038) (by decide +kernel)) rfl⟩, by decide +kernel, by decide⟩
theorem cw_RX10_239 : CwS RX10 239 yX10_spreadOf cX10_spreadOf 5 (some .int) 2 := ⟨⟨gt_3 (gt_of (List.mem_of_getElem? (i := 994) (by decide +kernel)) rfl) (gt_of (List.mem_of_getElem? (i := 995) (by decide +kernel)) rfl) (gt_of (List.mem_of_getElem? (i := 113) (by decide +kernel)) rfl), gt_of (List.mem_of_getElem? (i := 996) (by decide +kernel)) rfl⟩, by decide +kernel, by decide⟩
theorem cw_RX10_249 : CwS RX10 249 yX1_ofSet cX1_ofSet 4 (some .int) 3 := ⟨⟨gt_3 (gt_of (List.mem_of_getElem? (i := 1004) (by decide +kernel)) rfl) (gt_of (List.mem_of_getElem? (i := 1005) (by decide +kernel)) rfl) (gt_of (List.mem_of_getElem? (i := 129) (by decide +kernel)) rfl), gt_of (List.mem_of_getElem? (i := 1006) (by decide +kernel)) rfl⟩, by decide +kernel, by decide⟩
theorem cw_RX10_255 : CwS RX10 255 yX1_ofFamily cX1_ofFamily 4 (some .int) 1 := ⟨⟨gt_3 (gt_of (List.mem_of_getElem? (i := 1017) (by decide +kernel)) rfl) (gt_of (List.mem_of_getElem? (i := 1018) (by decide +kernel)) rfl) (gt_of (List.mem_of_getElem? (i := 129) (by decide +kernel)) rfl), gt_of (List.mem_of_getElem? (i := 1019) (by decide +kernel)) rfl⟩, by decide +kernel, by decide⟩
theorem cw_RX10_258 : CwS RX10 258 yX1_firstAlike cX1_firstAlike 2 (some .int) 2 := ⟨⟨gt_3 (gt_of (List.mem_of_getElem? (i := 1030) (by decide +kernel)) rfl) (gt_of (List.mem_of_getElem? (i := 1031) (by decide +kernel)) rfl) (gt_of (List.mem_of_getElem? (i := 129) (by decide +kernel)) rfl), gt_of (List.mem_of_getElem? (i := 1032) (by decide +kernel)) rfl⟩, by decide +kernel, by decide⟩
theorem cw_RX11_239 : CwS RX11 239 yX11_within cX11_within 3 (some .boolean) 3 := ⟨⟨gt_3 (gt_of (List.mem_of_getElem? (i := 1527) (by decide +kernel)) rfl) (gt_of (List.mem_of_getElem? (i := 1528) (by decide +kernel)) rfl) (gt_of (List.mem_of_getElem? (i := 122) (by decide +kernel)) rfl), gt_of (List.mem_of_getElem? (i := 1529) (by decide +kernel)) rfl⟩, by decide +kernel, by decide⟩
theorem cw_RX11_261 : CwS RX11 261 yX11_stripesOf cX11_stripesOf 2 (some .int) 2 := ⟨⟨gt_3 (gt_of (List.mem_of_getElem? (i := 1554) (by decide +kernel)) rfl) (gt_of (List.mem_of_getElem? (i := 1555) (by decide +kernel)) rfl) (gt_of (List.mem_of_getElem? (i := 122) (by decide +kernel)) rfl), gt_of (List.mem_of_getElem? (i := 1556) (by decide +kernel)) rfl⟩, by decide +kernel, by decide⟩
theorem cw_RX11_273 : CwS RX11 273 yX11_isIn cX11_isIn 2 (some .boolean) 2 := ⟨⟨gt_3 (gt_of (List.mem_of_getElem? (i := 1547) (by decide +kernel)) rfl) (gt_of (List.mem_of_getElem? (i := 1548) (by decide +kernel)) rfl) (gt_of (List.mem_of_getElem? (i := 122) (by decide +kernel)) rfl), gt_of (List.mem_of_getElem? (i := 1549) (by decide +kernel)) rfl⟩, by decide +kernel, by decide⟩
theorem cw_RX11_302 : CwS RX11 302 yX11_shifts cX11_shifts 3 none 2 := ⟨⟨gt_3 (gt_of (List.mem_of_getElem? (i := 1590) (by decide +kernel)) rfl) (gt_of (List.mem_of_getElem? (i := 1591) (by decide +kernel)) rfl) (gt_of (List.mem_of_getElem? (i := 122) (by decide +kernel)) rfl), gt_of (List.mem_of_getElem? (i := 1592) (by decide +kernel)) rfl⟩, by decide +kernel, by decide⟩
theorem cw_RX11_418 : CwS RX11 418 yX11_copies cX11_copies 5 none 4 := ⟨⟨gt_3 (gt_of (List.mem_of_getElem? (i := 1783) (by decide +kernel)) rfl) (gt_of (List.mem_of_getElem? (i := 1784) (by decide +kernel)) rfl) (gt_of (List.mem_of_getElem? (i := 122) (by decide +kernel)) rfl), gt_of (List.mem_of_getElem? (i := 1785) (by decide +kernel)) rfl⟩, by decide +kernel, by decide⟩
theorem cw_RX11_481 : CwS RX11 481 yX11_bits cX11_bits 3 (some .int) 1 := ⟨⟨gt_3 (gt_of (List.mem_of_getElem? (i := 1925) (by decide +kernel)) rfl) (gt_of (List.mem_of_getElem? (i := 1926) (by decide +kernel)) rfl) (gt_of (List.mem_of_getElem? (i := 122) (by decide +kernel)) rfl), gt_of (List.mem_of_getElem? (i := 1927) (by decide +kernel)) rfl⟩, by decide +kernel, by decide⟩
theorem cw_RX3_36 : CwS RX3 36 yJ9_floorMod_7cf53 cJ9_floorMod_7cf53 3 (some .int) 2 := ⟨⟨gt_3 (gt_of (List.mem_of_getElem? (i := 745) (by decide +kernel)) rfl) (gt_of (List.mem_of_getElem? (i := 746) (by decide +kernel)) rfl) (gt_of (List.mem_of_getElem? (i := 125) (by decide +kernel)) rfl), gt_of (List.mem_of_getElem? (i := 747) (by decide +kernel)) rfl⟩, by decide +kernel, by decide⟩
theorem cw_RX3_42 : CwS RX3 42 yX3_joined cX3_joined 3 (some .int) 3 := ⟨⟨gt_3 (gt_of (List.mem_of_getElem? (i := 742) (by decide +kernel)) rfl) (gt_of (List.mem_of_getElem? (i := 743) (by decide +kernel)) rfl) (gt_of (List.mem_of_getElem? (i := 117) (by decide +kernel)) rfl), gt_of (List.mem_of_getElem? (i := 744) (by decide +kernel)) rfl⟩, by decide +kernel, by decide⟩
theorem cw_RX5_71 : CwS RX5 71 yJ6_bitCount_0f7a4 cJ6_bitCount_0f7a4 1 (some .int) 1 := ⟨⟨gt_3 (gt_of (List.mem_of_getElem? (i := 1107) (by decide +kernel)) rfl) (gt_of (List.mem_of_getElem? (i := 1008) (by decide +kernel)) rfl) (gt_of (List.mem_of_getElem? (i := 130) (by decide +kernel)) rfl), gt_of (List.mem_of_getElem? (i := 1009) (by decide +kernel)) rfl⟩, by decide +kernel, by decide⟩
theorem cw_RX6_68 : CwS RX6 68 yJ6_bitCount_0f7a4 cJ6_bitCount_0f7a4 1 (some .int) 1 := ⟨⟨gt_3 (gt_of (List.mem_of_getElem? (i := 1106) (by decide +kernel)) rfl) (gt_of (List.mem_of_getElem? (i := 1008) (by decide +kernel)) rfl) (gt_of (List.mem_of_getElem? (i := 130) (by decide +kernel)) rfl), gt_of (List.mem_of_getElem? (i := 1009) (by decide +kernel)) rfl⟩, by decide +kernel, by decide⟩
theorem cw_RJ0_335 : CwV RJ0 335 RJ0 yJ0_coder_7d493 cJ0_coder_7d493 1 (some .byte) 0 := ⟨⟨gt_4 (gt_of (List.mem_of_getElem? (i := 521) (by decide +kernel)) rfl) (gt_of (List.mem_of_getElem? (i := 522) (by decide +kernel)) rfl) (gt_of (List.mem_of_getElem? (i := 523) (by decide +kernel)) rfl) (gt_of (List.mem_of_getElem? (i := 123) (by decide +kernel)) rfl), gt_of (List.mem_of_getElem? (i := 524) (by decide +kernel)) rfl⟩, by decide +kernel, by decide⟩
theorem cw_RJ0_492 : CwV RJ0 492 RJ0 yJ0_isLatin1_aae02 cJ0_isLatin1_aae02 1 (some .boolean) 0 := ⟨⟨gt_4 (gt_of (List.mem_of_getElem? (i := 511) (by decide +kernel)) rfl) (gt_of (List.mem_of_getElem? (i := 512) (by decide +kernel)) rfl) (gt_of (List.mem_of_getElem? (i := 513) (by decide +kernel)) rfl) (gt_of (List.mem_of_getElem? (i := 123) (by decide +kernel)) rfl), gt_of (List.mem_of_getElem? (i := 514) (by decide +kernel)) rfl⟩, by decide +kernel, by decide⟩
theorem cw_RJ0_505 : CwV RJ0 505 RJ0 yJ0_length_8abf5 cJ0_length_8abf5 1 (some .int) 0 := ⟨⟨gt_4 (gt_of (List.mem_of_getElem? (i := 517) (by decide +kernel)) rfl) (gt_of (List.mem_of_getElem? (i := 518) (by decide +kernel)) rfl) (gt_of (List.mem_of_getElem? (i := 519) (by decide +kernel)) rfl) (gt_of (List.mem_of_getElem? (i := 123) (by decide +kernel)) rfl), gt_of (List.mem_of_getElem? (i := 520) (by decide +kernel)) rfl⟩, by decide +kernel, by decide⟩
theorem cw_RJ0_633 : CwV RJ0 633 RJ0 yJ0_indexOf_7cf53 cJ0_indexOf_7cf53 3 (some .int) 2 := ⟨⟨gt_4 (gt_of (List.mem_of_getElem? (i := 507) (by decide +kernel)) rfl) (gt_of (List.mem_of_getElem? (i := 508) (by decide +kernel)) rfl) (gt_of (List.mem_of_getElem? (i := 509) (by decide +kernel)) rfl) (gt_of (List.mem_of_getElem? (i := 123) (by decide +kernel)) rfl), gt_of (List.mem_of_getElem? (i := 510) (by decide +kernel)) rfl⟩, by decide +kernel, by decide⟩
theorem cw_RX0_38 : CwV RX0 38 RX7 yX7_isWord cX7_isWord 3 (some .boolean) 1 := ⟨⟨gt_4 (gt_of (List.mem_of_getElem? (i := 590) (by decide +kernel)) rfl) (gt_of (List.mem_of_getElem? (i := 591) (by decide +kernel)) rfl) (gt_of (List.mem_of_getElem? (i := 592) (by decide +kernel)) rfl) (gt_of (List.mem_of_getElem? (i := 114) (by decide +kernel)) rfl), gt_of (List.mem_of_getElem? (i := 593) (by decide +kernel)) rfl⟩, by decide +kernel, by decide⟩
theorem cw_RX0_60 : CwV RX0 60 RX7 yX7_fail cX7_fail 2 none 1 := ⟨⟨gt_4 (gt_of (List.mem_of_getElem? (i := 619) (by decide +kernel)) rfl) (gt_of (List.mem_of_getElem? (i := 620) (by decide +kernel)) rfl) (gt_of (List.mem_of_getElem? (i := 621) (by decide +kernel)) rfl) (gt_of (List.mem_of_getElem? (i := 114) (by decide +kernel)) rfl), gt_of (List.mem_of_getElem? (i := 622) (by decide +kernel)) rfl⟩, by decide +kernel, by decide⟩
theorem cw_RX0_66 : CwV RX0 66 RX7 yX7_advance cX7_advance 2 none 0 := ⟨⟨gt_4 (gt_of (List.mem_of_getElem? (i := 623) (by decide +kernel)) rfl) (gt_of (List.mem_of_getElem? (i := 491) (by decide +kernel)) rfl) (gt_of (List.mem_of_getElem? (i := 492) (by decide +kernel)) rfl) (gt_of (List.mem_of_getElem? (i := 114) (by decide +kernel)) rfl), gt_of (List.mem_of_getElem? (i := 493) (by decide +kernel)) rfl⟩, by decide +kernel, by decide⟩
theorem cw_RX0_69 : CwV RX0 69 RX7 yX7_numberWithin cX7_numberWithin 4 (some .int) 2 := ⟨⟨gt_4 (gt_of (List.mem_of_getElem? (i := 624) (by decide +kernel)) rfl) (gt_of (List.mem_of_getElem? (i := 625) (by decide +kernel)) rfl) (gt_of (List.mem_of_getElem? (i := 626) (by decide +kernel)) rfl) (gt_of (List.mem_of_getElem? (i := 114) (by decide +kernel)) rfl), gt_of (List.mem_of_getElem? (i := 627) (by decide +kernel)) rfl⟩, by decide +kernel, by decide⟩
theorem cw_RX0_73 : CwV RX0 73 RX7 yX7_pass cX7_pass 2 none 1 := ⟨⟨gt_4 (gt_of (List.mem_of_getElem? (i := 629) (by decide +kernel)) rfl) (gt_of (List.mem_of_getElem? (i := 630) (by decide +kernel)) rfl) (gt_of (List.mem_of_getElem? (i := 631) (by decide +kernel)) rfl) (gt_of (List.mem_of_getElem? (i := 114) (by decide +kernel)) rfl), gt_of (List.mem_of_getElem? (i := 632) (by decide +kernel)) rfl⟩, by decide +kernel, by decide⟩
theorem cw_RX0_88 : CwV RX0 88 RX0 yX0_chain cX0_chain 6 none 2 := ⟨⟨gt_4 (gt_of (List.mem_of_getElem? (i := 676) (by decide +kernel)) rfl) (gt_of (List.mem_of_getElem? (i := 678) (by decide +kernel)) rfl) (gt_of (List.mem_of_getElem? (i := 8) (by decide +kernel)) rfl) (gt_of (List.mem_of_getElem? (i := 115) (by decide +kernel)) rfl), gt_of (List.mem_of_getElem? (i := 679) (by decide +kernel)) rfl⟩, by decide +kernel, by decide⟩
theorem cw_RX0_95 : CwV RX0 95 RX0 yX0_kindInHand cX0_kindInHand 1 (some .int) 0 := ⟨⟨gt_4 (gt_of (List.mem_of_getElem? (i := 642) (by decide +kernel)) rfl) (gt_of (List.mem_of_getElem? (i := 644) (by decide +kernel)) rfl) (gt_of (List.mem_of_getElem? (i := 4) (by decide +kernel)) rfl) (gt_of (List.mem_of_getElem? (i := 115) (by decide +kernel)) rfl), gt_of (List.mem_of_getElem? (i := 645) (by decide +kernel)) rfl⟩, by decide +kernel, by decide⟩
theorem cw_RX0_106 : CwV RX0 106 RX0 yX0_blockDisk cX0_blockDisk 3 none 0 := ⟨⟨gt_4 (gt_of (List.mem_of_getElem? (i := 650) (by decide +kernel)) rfl) (gt_of (List.mem_of_getElem? (i := 652) (by decide +kernel)) rfl) (gt_of (List.mem_of_getElem? (i := 5) (by decide +kernel)) rfl) (gt_of (List.mem_of_getElem? (i := 115) (by decide +kernel)) rfl), gt_of (List.mem_of_getElem? (i := 653) (by decide +kernel)) rfl⟩, by decide +kernel, by decide⟩
theorem cw_RX0_109 : CwV RX0 109 RX0 yX0_closeBlock cX0_closeBlock 1 none 0 := ⟨⟨gt_4 (gt_of (List.mem_of_getElem? (i := 658) (by decide +kernel)) rfl) (gt_of (List.mem_of_getElem? (i := 660) (by decide +kernel)) rfl) (gt_of (List.mem_of_getElem? (i := 6) (by decide +kernel)) rfl) (gt_of (List.mem_of_getElem? (i := 115) (by decide +kernel)) rfl), gt_of (List.mem_of_getElem? (i := 661) (by decide +kernel)) rfl⟩, by decide +kernel, by decide⟩
theorem cw_RX0_123 : CwV RX0 123 RX8 yX8_bitsOf cX8_bitsOf 4 (some .int) 1 := ⟨⟨gt_4 (gt_of (List.mem_of_getElem? (i := 654) (by decide +kernel)) rfl) (gt_of (List.mem_of_getElem? (i := 655) (by decide +kernel)) rfl) (gt_of (List.mem_of_getElem? (i := 656) (by decide +kernel)) rfl) (gt_of (List.mem_of_getElem? (i := 116) (by decide +kernel)) rfl), gt_of (List.mem_of_getElem? (i := 657) (by decide +kernel)) rfl⟩, by decide +kernel, by decide⟩
theorem cw_RX0_130 : CwV RX0 130 RX7 yX7_isSign cX7_isSign 2 (some .boolean) 1 := ⟨⟨gt_4 (gt_of (List.mem_of_getElem? (i := 662) (by decide +kernel)) rfl) (gt_of (List.mem_of_getElem? (i := 634) (by decide +kernel)) rfl) (gt_of (List.mem_of_getElem? (i := 635) (by decide +kernel)) rfl) (gt_of (List.mem_of_getElem? (i := 114) (by decide +kernel)) rfl), gt_of (List.mem_of_getElem? (i := 636) (by decide +kernel)) rfl⟩, by decide +kernel, by decide⟩
theorem cw_RX0_134 : CwV RX0 134 RX8 yX8_stripesOfAll cX8_stripesOfAll 5 (some .int) 2 := ⟨⟨gt_4 (gt_of (List.mem_of_getElem? (i := 663) (by decide +kernel)) rfl) (gt_of (List.mem_of_getElem? (i := 664) (by decide +kernel)) rfl) (gt_of (List.mem_of_getElem? (i := 665) (by decide +kernel)) rfl) (gt_of (List.mem_of_getElem? (i := 116) (by decide +kernel)) rfl), gt_of (List.mem_of_getElem? (i := 666) (by decide +kernel)) rfl⟩, by decide +kernel, by decide⟩
theorem cw_RX0_137 : CwV RX0 137 RX0 yX0_part cX0_part 4 none 1 := ⟨⟨gt_4 (gt_of (List.mem_of_getElem? (i := 680) (by decide +kernel)) rfl) (gt_of (List.mem_of_getElem? (i := 682) (by decide +kernel)) rfl) (gt_of (List.mem_of_getElem? (i := 9) (by decide +kernel)) rfl) (gt_of (List.mem_of_getElem? (i := 115) (by decide +kernel)) rfl), gt_of (List.mem_of_getElem? (i := 683) (by decide +kernel)) rfl⟩, by decide +kernel, by decide⟩
theorem cw_RX0_140 : CwV RX0 140 RX0 yX0_operatorInHand cX0_operatorInHand 2 (some .int) 1 := ⟨⟨gt_4 (gt_of (List.mem_of_getElem? (i := 697) (by decide +kernel)) rfl) (gt_of (List.mem_of_getElem? (i := 699) (by decide +kernel)) rfl) (gt_of (List.mem_of_getElem? (i := 11) (by decide +kernel)) rfl) (gt_of (List.mem_of_getElem? (i := 115) (by decide +kernel)) rfl), gt_of (List.mem_of_getElem? (i := 700) (by decide +kernel)) rfl⟩, by decide +kernel, by decide⟩
theorem cw_RX0_143 : CwV RX0 143 RX3 yX3_add cX3_add 2 none 1 := ⟨⟨gt_4 (gt_of (List.mem_of_getElem? (i := 693) (by decide +kernel)) rfl) (gt_of (List.mem_of_getElem? (i := 694) (by decide +kernel)) rfl) (gt_of (List.mem_of_getElem? (i := 695) (by decide +kernel)) rfl) (gt_of (List.mem_of_getElem? (i := 117) (by decide +kernel)) rfl), gt_of (List.mem_of_getElem? (i := 696) (by decide +kernel)) rfl⟩, by decide +kernel, by decide⟩
theorem cw_RX0_150 : CwV RX0 150 RX0 yX0_leafInHand cX0_leafInHand 1 (some .int) 0 := ⟨⟨gt_4 (gt_of (List.mem_of_getElem? (i := 684) (by decide +kernel)) rfl) (gt_of (List.mem_of_getElem? (i := 686) (by decide +kernel)) rfl) (gt_of (List.mem_of_getElem? (i := 10) (by decide +kernel)) rfl) (gt_of (List.mem_of_getElem? (i := 115) (by decide +kernel)) rfl), gt_of (List.mem_of_getElem? (i := 687) (by decide +kernel)) rfl⟩, by decide +kernel, by decide⟩
theorem cw_RX1_40 : CwV RX1 40 RX8 yX8_bitsOf cX8_bitsOf 4 (some .int) 1 := ⟨⟨gt_4 (gt_of (List.mem_of_getElem? (i := 1024) (by decide +kernel)) rfl) (gt_of (List.mem_of_getElem? (i := 655) (by decide +kernel)) rfl) (gt_of (List.mem_of_getElem? (i := 656) (by decide +kernel)) rfl) (gt_of (List.mem_of_getElem? (i := 116) (by decide +kernel)) rfl), gt_of (List.mem_of_getElem? (i := 657) (by decide +kernel)) rfl⟩, by decide +kernel, by decide⟩
theorem cw_RX10_84 : CwV RX10 84 RX7 yX7_append cX7_append 6 none 1 := ⟨⟨gt_4 (gt_of (List.mem_of_getElem? (i := 470) (by decide +kernel)) rfl) (gt_of (List.mem_of_getElem? (i := 471) (by decide +kernel)) rfl) (gt_of (List.mem_of_getElem? (i := 472) (by decide +kernel)) rfl) (gt_of (List.mem_of_getElem? (i := 114) (by decide +kernel)) rfl), gt_of (List.mem_of_getElem? (i := 473) (by decide +kernel)) rfl⟩, by decide +kernel, by decide⟩
theorem cw_RX10_99 : CwV RX10 99 RX4 yX4_build cX4_build 6 (some .boolean) 2 := ⟨⟨gt_4 (gt_of (List.mem_of_getElem? (i := 708) (by decide +kernel)) rfl) (gt_of (List.mem_of_getElem? (i := 709) (by decide +kernel)) rfl) (gt_of (List.mem_of_getElem? (i := 710) (by decide +kernel)) rfl) (gt_of (List.mem_of_getElem? (i := 119) (by decide +kernel)) rfl), gt_of (List.mem_of_getElem? (i := 711) (by decide +kernel)) rfl⟩, by decide +kernel, by decide⟩
theorem cw_RX10_104 : CwV RX10 104 RX6 yX6_begin cX6_begin 2 none 0 := ⟨⟨gt_4 (gt_of (List.mem_of_getElem? (i := 756) (by decide +kernel)) rfl) (gt_of (List.mem_of_getElem? (i := 757) (by decide +kernel)) rfl) (gt_of (List.mem_of_getElem? (i := 758) (by decide +kernel)) rfl) (gt_of (List.mem_of_getElem? (i := 120) (by decide +kernel)) rfl), gt_of (List.mem_of_getElem? (i := 759) (by decide +kernel)) rfl⟩, by decide +kernel, by decide⟩
theorem cw_RX10_114 : CwV RX10 114 RX10 yX10_isStripe cX10_isStripe 2 (some .boolean) 1 := ⟨⟨gt_4 (gt_of (List.mem_of_getElem? (i := 797) (by decide +kernel)) rfl) (gt_of (List.mem_of_getElem? (i := 799) (by decide +kernel)) rfl) (gt_of (List.mem_of_getElem? (i := 23) (by decide +kernel)) rfl) (gt_of (List.mem_of_getElem? (i := 113) (by decide +kernel)) rfl), gt_of (List.mem_of_getElem? (i := 800) (by decide +kernel)) rfl⟩, by decide +kernel, by decide⟩
theorem cw_RX10_131 : CwV RX10 131 RX6 yX6_lostBits cX6_lostBits 4 (some .int) 1 := ⟨⟨gt_4 (gt_of (List.mem_of_getElem? (i := 801) (by decide +kernel)) rfl) (gt_of (List.mem_of_getElem? (i := 802) (by decide +kernel)) rfl) (gt_of (List.mem_of_getElem? (i := 803) (by decide +kernel)) rfl) (gt_of (List.mem_of_getElem? (i := 120) (by decide +kernel)) rfl), gt_of (List.mem_of_getElem? (i := 804) (by decide +kernel)) rfl⟩, by decide +kernel, by decide⟩
theorem cw_RX10_135 : CwV RX10 135 RX6 yX6_awayUnit cX6_awayUnit 3 (some .int) 1 := ⟨⟨gt_4 (gt_of (List.mem_of_getElem? (i := 805) (by decide +kernel)) rfl) (gt_of (List.mem_of_getElem? (i := 806) (by decide +kernel)) rfl) (gt_of (List.mem_of_getElem? (i := 807) (by decide +kernel)) rfl) (gt_of (List.mem_of_getElem? (i := 120) (by decide +kernel)) rfl), gt_of (List.mem_of_getElem? (i := 808) (by decide +kernel)) rfl⟩, by decide +kernel, by decide⟩
theorem cw_RX10_147 : CwV RX10 147 RX6 yX6_isDead cX6_isDead 3 (some .boolean) 1 := ⟨⟨gt_4 (gt_of (List.mem_of_getElem? (i := 813) (by decide +kernel)) rfl) (gt_of (List.mem_of_getElem? (i := 814) (by decide +kernel)) rfl) (gt_of (List.mem_of_getElem? (i := 815) (by decide +kernel)) rfl) (gt_of (List.mem_of_getElem? (i := 120) (by decide +kernel)) rfl), gt_of (List.mem_of_getElem? (i := 816) (by decide +kernel)) rfl⟩, by decide +kernel, by decide⟩
theorem cw_RX10_150 : CwV RX10 150 RX6 yX6_byteOf cX6_byteOf 5 (some .int) 1 := ⟨⟨gt_4 (gt_of (List.mem_of_getElem? (i := 818) (by decide +kernel)) rfl) (gt_of (List.mem_of_getElem? (i := 819) (by decide +kernel)) rfl) (gt_of (List.mem_of_getElem? (i := 820) (by decide +kernel)) rfl) (gt_of (List.mem_of_getElem? (i := 120) (by decide +kernel)) rfl), gt_of (List.mem_of_getElem? (i := 821) (by decide +kernel)) rfl⟩, by decide +kernel, by decide⟩
theorem cw_RX10_156 : CwV RX10 156 RX10 yX10_isDatum cX10_isDatum 2 (some .boolean) 1 := ⟨⟨gt_4 (gt_of (List.mem_of_getElem? (i := 826) (by decide +kernel)) rfl) (gt_of (List.mem_of_getElem? (i := 828) (by decide +kernel)) rfl) (gt_of (List.mem_of_getElem? (i := 24) (by decide +kernel)) rfl) (gt_of (List.mem_of_getElem? (i := 113) (by decide +kernel)) rfl), gt_of (List.mem_of_getElem? (i := 829) (by decide +kernel)) rfl⟩, by decide +kernel, by decide⟩
theorem cw_RX10_162 : CwV RX10 162 RX6 yX6_diskNow cX6_diskNow 2 (some .int) 1 := ⟨⟨gt_4 (gt_of (List.mem_of_getElem? (i := 830) (by decide +kernel)) rfl) (gt_of (List.mem_of_getElem? (i := 831) (by decide +kernel)) rfl) (gt_of (List.mem_of_getElem? (i := 832) (by decide +kernel)) rfl) (gt_of (List.mem_of_getElem? (i := 120) (by decide +kernel)) rfl), gt_of (List.mem_of_getElem? (i := 833) (by decide +kernel)) rfl⟩, by decide +kernel, by decide⟩
theorem cw_RX10_165 : CwV RX10 165 RX6 yX6_placeNow cX6_placeNow 2 (some .int) 1 := ⟨⟨gt_4 (gt_of (List.mem_of_getElem? (i := 834) (by decide +kernel)) rfl) (gt_of (List.mem_of_getElem? (i := 835) (by decide +kernel)) rfl) (gt_of (List.mem_of_getElem? (i := 836) (by decide +kernel)) rfl) (gt_of (List.mem_of_getElem? (i := 120) (by decide +kernel)) rfl), gt_of (List.mem_of_getElem? (i := 837) (by decide +kernel)) rfl⟩, by decide +kernel, by decide⟩
theorem cw_RX10_168 : CwV RX10 168 RX10 yX10_isDisk cX10_isDisk 2 (some .boolean) 1 := ⟨⟨gt_4 (gt_of (List.mem_of_getElem? (i := 842) (by decide +kernel)) rfl) (gt_of (List.mem_of_getElem? (i := 844) (by decide +kernel)) rfl) (gt_of (List.mem_of_getElem? (i := 25) (by decide +kernel)) rfl) (gt_of (List.mem_of_getElem? (i := 113) (by decide +kernel)) rfl), gt_of (List.mem_of_getElem? (i := 845) (by decide +kernel)) rfl⟩, by decide +kernel, by decide⟩
theorem cw_RX10_171 : CwV RX10 171 RX4 yX4_heldAt cX4_heldAt 6 (some .int) 2 := ⟨⟨gt_4 (gt_of (List.mem_of_getElem? (i := 846) (by decide +kernel)) rfl) (gt_of (List.mem_of_getElem? (i := 847) (by decide +kernel)) rfl) (gt_of (List.mem_of_getElem? (i := 848) (by decide +kernel)) rfl) (gt_of (List.mem_of_getElem? (i := 119) (by decide +kernel)) rfl), gt_of (List.mem_of_getElem? (i := 849) (by decide +kernel)) rfl⟩, by decide +kernel, by decide⟩
theorem cw_RX10_174 : CwV RX10 174 RX6 yX6_isUp cX6_isUp 2 (some .boolean) 1 := ⟨⟨gt_4 (gt_of (List.mem_of_getElem? (i := 854) (by decide +kernel)) rfl) (gt_of (List.mem_of_getElem? (i := 855) (by decide +kernel)) rfl) (gt_of (List.mem_of_getElem? (i := 856) (by decide +kernel)) rfl) (gt_of (List.mem_of_getElem? (i := 120) (by decide +kernel)) rfl), gt_of (List.mem_of_getElem? (i := 857) (by decide +kernel)) rfl⟩, by decide +kernel, by decide⟩
theorem cw_RX10_189 : CwV RX10 189 RX6 yX6_unitsNow cX6_unitsNow 4 (some .int) 1 := ⟨⟨gt_4 (gt_of (List.mem_of_getElem? (i := 858) (by decide +kernel)) rfl) (gt_of (List.mem_of_getElem? (i := 859) (by decide +kernel)) rfl) (gt_of (List.mem_of_getElem? (i := 860) (by decide +kernel)) rfl) (gt_of (List.mem_of_getElem? (i := 120) (by decide +kernel)) rfl), gt_of (List.mem_of_getElem? (i := 861) (by decide +kernel)) rfl⟩, by decide +kernel, by decide⟩
theorem cw_RX10_192 : CwV RX10 192 RX6 yX6_readDatum cX6_readDatum 3 (some .boolean) 1 := ⟨⟨gt_4 (gt_of (List.mem_of_getElem? (i := 871) (by decide +kernel)) rfl) (gt_of (List.mem_of_getElem? (i := 872) (by decide +kernel)) rfl) (gt_of (List.mem_of_getElem? (i := 873) (by decide +kernel)) rfl) (gt_of (List.mem_of_getElem? (i := 120) (by decide +kernel)) rfl), gt_of (List.mem_of_getElem? (i := 874) (by decide +kernel)) rfl⟩, by decide +kernel, by decide⟩
theorem cw_RX10_195 : CwV RX10 195 RX6 yX6_writeDatum cX6_writeDatum 7 (some .int) 2 := ⟨⟨gt_4 (gt_of (List.mem_of_getElem? (i := 892) (by decide +kernel)) rfl) (gt_of (List.mem_of_getElem? (i := 893) (by decide +kernel)) rfl) (gt_of (List.mem_of_getElem? (i := 894) (by decide +kernel)) rfl) (gt_of (List.mem_of_getElem? (i := 120) (by decide +kernel)) rfl), gt_of (List.mem_of_getElem? (i := 895) (by decide +kernel)) rfl⟩, by decide +kernel, by decide⟩
theorem cw_RX10_198 : CwV RX10 198 RX6 yX6_loseDisk cX6_loseDisk 5 (some .int) 1 := ⟨⟨gt_4 (gt_of (List.mem_of_getElem? (i := 904) (by decide +kernel)) rfl) (gt_of (List.mem_of_getElem? (i := 905) (by decide +kernel)) rfl) (gt_of (List.mem_of_getElem? (i := 906) (by decide +kernel)) rfl) (gt_of (List.mem_of_getElem? (i := 120) (by decide +kernel)) rfl), gt_of (List.mem_of_getElem? (i := 907) (by decide +kernel)) rfl⟩, by decide +kernel, by decide⟩
theorem cw_RX10_201 : CwV RX10 201 RX6 yX6_replaceDisk cX6_replaceDisk 2 (some .boolean) 1 := ⟨⟨gt_4 (gt_of (List.mem_of_getElem? (i := 913) (by decide +kernel)) rfl) (gt_of (List.mem_of_getElem? (i := 914) (by decide +kernel)) rfl) (gt_of (List.mem_of_getElem? (i := 915) (by decide +kernel)) rfl) (gt_of (List.mem_of_getElem? (i := 120) (by decide +kernel)) rfl), gt_of (List.mem_of_getElem? (i := 916) (by decide +kernel)) rfl⟩, by decide +kernel, by decide⟩
theorem cw_RX10_204 : CwV RX10 204 RX6 yX6_rebuildUnits cX6_rebuildUnits 6 (some .int) 1 := ⟨⟨gt_4 (gt_of (List.mem_of_getElem? (i := 921) (by decide +kernel)) rfl) (gt_of (List.mem_of_getElem? (i := 922) (by decide +kernel)) rfl) (gt_of (List.mem_of_getElem? (i := 923) (by decide +kernel)) rfl) (gt_of (List.mem_of_getElem? (i := 120) (by decide +kernel)) rfl), gt_of (List.mem_of_getElem? (i := 924) (by decide +kernel)) rfl⟩, by decide +kernel, by decide⟩
theorem cw_RX10_207 : CwV RX10 207 RX6 yX6_bringHome cX6_bringHome 6 (some .int) 1 := ⟨⟨gt_4 (gt_of (List.mem_of_getElem? (i := 938) (by decide +kernel)) rfl) (gt_of (List.mem_of_getElem? (i := 939) (by decide +kernel)) rfl) (gt_of (List.mem_of_getElem? (i := 940) (by decide +kernel)) rfl) (gt_of (List.mem_of_getElem? (i := 120) (by decide +kernel)) rfl), gt_of (List.mem_of_getElem? (i := 941) (by decide +kernel)) rfl⟩, by decide +kernel, by decide⟩
theorem cw_RX10_219 : CwV RX10 219 RX6 yX6_perform cX6_perform 4 (some .boolean) 3 := ⟨⟨gt_4 (gt_of (List.mem_of_getElem? (i := 946) (by decide +kernel)) rfl) (gt_of (List.mem_of_getElem? (i := 947) (by decide +kernel)) rfl) (gt_of (List.mem_of_getElem? (i := 948) (by decide +kernel)) rfl) (gt_of (List.mem_of_getElem? (i := 120) (by decide +kernel)) rfl), gt_of (List.mem_of_getElem? (i := 949) (by decide +kernel)) rfl⟩, by decide +kernel, by decide⟩
theorem cw_RX10_223 : CwV RX10 223 RX6 yX6_allLoads cX6_allLoads 3 (some .int) 0 := ⟨⟨gt_4 (gt_of (List.mem_of_getElem? (i := 956) (by decide +kernel)) rfl) (gt_of (List.mem_of_getElem? (i := 957) (by decide +kernel)) rfl) (gt_of (List.mem_of_getElem? (i := 958) (by decide +kernel)) rfl) (gt_of (List.mem_of_getElem? (i := 120) (by decide +kernel)) rfl), gt_of (List.mem_of_getElem? (i := 959) (by decide +kernel)) rfl⟩, by decide +kernel, by decide⟩
theorem cw_RX10_227 : CwV RX10 227 RX6 yX6_deadStripes cX6_deadStripes 3 (some .int) 0 := ⟨⟨gt_4 (gt_of (List.mem_of_getElem? (i := 960) (by decide +kernel)) rfl) (gt_of (List.mem_of_getElem? (i := 961) (by decide +kernel)) rfl) (gt_of (List.mem_of_getElem? (i := 962) (by decide +kernel)) rfl) (gt_of (List.mem_of_getElem? (i := 120) (by decide +kernel)) rfl), gt_of (List.mem_of_getElem? (i := 963) (by decide +kernel)) rfl⟩, by decide +kernel, by decide⟩
theorem cw_RX10_230 : CwV RX10 230 RX4 yX4_shared cX4_shared 6 (some .int) 2 := ⟨⟨gt_4 (gt_of (List.mem_of_getElem? (i := 968) (by decide +kernel)) rfl) (gt_of (List.mem_of_getElem? (i := 969) (by decide +kernel)) rfl) (gt_of (List.mem_of_getElem? (i := 970) (by decide +kernel)) rfl) (gt_of (List.mem_of_getElem? (i := 119) (by decide +kernel)) rfl), gt_of (List.mem_of_getElem? (i := 971) (by decide +kernel)) rfl⟩, by decide +kernel, by decide⟩
theorem cw_RX10_233 : CwV RX10 233 RX4 yX4_sharedByAny cX4_sharedByAny 4 (some .int) 0 := ⟨⟨gt_4 (gt_of (List.mem_of_getElem? (i := 976) (by decide +kernel)) rfl) (gt_of (List.mem_of_getElem? (i := 977) (by decide +kernel)) rfl) (gt_of (List.mem_of_getElem? (i := 978) (by decide +kernel)) rfl) (gt_of (List.mem_of_getElem? (i := 119) (by decide +kernel)) rfl), gt_of (List.mem_of_getElem? (i := 979) (by decide +kernel)) rfl⟩, by decide +kernel, by decide⟩
theorem cw_RX10_236 : CwV RX10 236 RX4 yX4_mostShared cX4_mostShared 4 (some .int) 1 := ⟨⟨gt_4 (gt_of (List.mem_of_getElem? (i := 985) (by decide +kernel)) rfl) (gt_of (List.mem_of_getElem? (i := 986) (by decide +kernel)) rfl) (gt_of (List.mem_of_getElem? (i := 987) (by decide +kernel)) rfl) (gt_of (List.mem_of_getElem? (i := 119) (by decide +kernel)) rfl), gt_of (List.mem_of_getElem? (i := 988) (by decide +kernel)) rfl⟩, by decide +kernel, by decide⟩
theorem cw_RX10_246 : CwV RX10 246 RX8 yX8_bitsOf cX8_bitsOf 4 (some .int) 1 := ⟨⟨gt_4 (gt_of (List.mem_of_getElem? (i := 1003) (by decide +kernel)) rfl) (gt_of (List.mem_of_getElem? (i := 655) (by decide +kernel)) rfl) (gt_of (List.mem_of_getElem? (i := 656) (by decide +kernel)) rfl) (gt_of (List.mem_of_getElem? (i := 116) (by decide +kernel)) rfl), gt_of (List.mem_of_getElem? (i := 657) (by decide +kernel)) rfl⟩, by decide +kernel, by decide⟩
theorem cw_RX10_261 : CwV RX10 261 RX6 yX6_costOf cX6_costOf 2 (some .int) 1 := ⟨⟨gt_4 (gt_of (List.mem_of_getElem? (i := 1043) (by decide +kernel)) rfl) (gt_of (List.mem_of_getElem? (i := 876) (by decide +kernel)) rfl) (gt_of (List.mem_of_getElem? (i := 877) (by decide +kernel)) rfl) (gt_of (List.mem_of_getElem? (i := 120) (by decide +kernel)) rfl), gt_of (List.mem_of_getElem? (i := 878) (by decide +kernel)) rfl⟩, by decide +kernel, by decide⟩
theorem cw_RX10_264 : CwV RX10 264 RX6 yX6_priceOf cX6_priceOf 3 (some .int) 1 := ⟨⟨gt_4 (gt_of (List.mem_of_getElem? (i := 1048) (by decide +kernel)) rfl) (gt_of (List.mem_of_getElem? (i := 897) (by decide +kernel)) rfl) (gt_of (List.mem_of_getElem? (i := 898) (by decide +kernel)) rfl) (gt_of (List.mem_of_getElem? (i := 120) (by decide +kernel)) rfl), gt_of (List.mem_of_getElem? (i := 899) (by decide +kernel)) rfl⟩, by decide +kernel, by decide⟩
theorem cw_RX10_267 : CwV RX10 267 RX10 yX10_isUpDisk cX10_isUpDisk 2 (some .boolean) 1 := ⟨⟨gt_4 (gt_of (List.mem_of_getElem? (i := 1053) (by decide +kernel)) rfl) (gt_of (List.mem_of_getElem? (i := 1055) (by decide +kernel)) rfl) (gt_of (List.mem_of_getElem? (i := 30) (by decide +kernel)) rfl) (gt_of (List.mem_of_getElem? (i := 113) (by decide +kernel)) rfl), gt_of (List.mem_of_getElem? (i := 1056) (by decide +kernel)) rfl⟩, by decide +kernel, by decide⟩
theorem cw_RX10_270 : CwV RX10 270 RX5 yX5_readsFrom cX5_readsFrom 6 (some .int) 2 := ⟨⟨gt_4 (gt_of (List.mem_of_getElem? (i := 1057) (by decide +kernel)) rfl) (gt_of (List.mem_of_getElem? (i := 1058) (by decide +kernel)) rfl) (gt_of (List.mem_of_getElem? (i := 1059) (by decide +kernel)) rfl) (gt_of (List.mem_of_getElem? (i := 121) (by decide +kernel)) rfl), gt_of (List.mem_of_getElem? (i := 1060) (by decide +kernel)) rfl⟩, by decide +kernel, by decide⟩
theorem cw_RX10_273 : CwV RX10 273 RX8 yX8_pace cX8_pace 1 (some .int) 0 := ⟨⟨gt_4 (gt_of (List.mem_of_getElem? (i := 1067) (by decide +kernel)) rfl) (gt_of (List.mem_of_getElem? (i := 1068) (by decide +kernel)) rfl) (gt_of (List.mem_of_getElem? (i := 1069) (by decide +kernel)) rfl) (gt_of (List.mem_of_getElem? (i := 116) (by decide +kernel)) rfl), gt_of (List.mem_of_getElem? (i := 1070) (by decide +kernel)) rfl⟩, by decide +kernel, by decide⟩
theorem cw_RX10_276 : CwV RX10 276 RX5 yX5_ticks cX5_ticks 7 (some .int) 2 := ⟨⟨gt_4 (gt_of (List.mem_of_getElem? (i := 1071) (by decide +kernel)) rfl) (gt_of (List.mem_of_getElem? (i := 1072) (by decide +kernel)) rfl) (gt_of (List.mem_of_getElem? (i := 1073) (by decide +kernel)) rfl) (gt_of (List.mem_of_getElem? (i := 121) (by decide +kernel)) rfl), gt_of (List.mem_of_getElem? (i := 1074) (by decide +kernel)) rfl⟩, by decide +kernel, by decide⟩
theorem cw_RX10_279 : CwV RX10 279 RX5 yX5_kills cX5_kills 4 (some .boolean) 1 := ⟨⟨gt_4 (gt_of (List.mem_of_getElem? (i := 1098) (by decide +kernel)) rfl) (gt_of (List.mem_of_getElem? (i := 1099) (by decide +kernel)) rfl) (gt_of (List.mem_of_getElem? (i := 1100) (by decide +kernel)) rfl) (gt_of (List.mem_of_getElem? (i := 121) (by decide +kernel)) rfl), gt_of (List.mem_of_getElem? (i := 1101) (by decide +kernel)) rfl⟩, by decide +kernel, by decide⟩
theorem cw_RX10_282 : CwV RX10 282 RX5 yX5_deadlyPairs cX5_deadlyPairs 4 (some .int) 0 := ⟨⟨gt_4 (gt_of (List.mem_of_getElem? (i := 1112) (by decide +kernel)) rfl) (gt_of (List.mem_of_getElem? (i := 1113) (by decide +kernel)) rfl) (gt_of (List.mem_of_getElem? (i := 1114) (by decide +kernel)) rfl) (gt_of (List.mem_of_getElem? (i := 121) (by decide +kernel)) rfl), gt_of (List.mem_of_getElem? (i := 1115) (by decide +kernel)) rfl⟩, by decide +kernel, by decide⟩
theorem cw_RX10_285 : CwV RX10 285 RX4 yX4_movedIn cX4_movedIn 7 (some .int) 1 := ⟨⟨gt_4 (gt_of (List.mem_of_getElem? (i := 1121) (by decide +kernel)) rfl) (gt_of (List.mem_of_getElem? (i := 1122) (by decide +kernel)) rfl) (gt_of (List.mem_of_getElem? (i := 1123) (by decide +kernel)) rfl) (gt_of (List.mem_of_getElem? (i := 119) (by decide +kernel)) rfl), gt_of (List.mem_of_getElem? (i := 1124) (by decide +kernel)) rfl⟩, by decide +kernel, by decide⟩
theorem cw_RX10_289 : CwV RX10 289 RX4 yX4_allUnits cX4_allUnits 3 (some .int) 0 := ⟨⟨gt_4 (gt_of (List.mem_of_getElem? (i := 1126) (by decide +kernel)) rfl) (gt_of (List.mem_of_getElem? (i := 1127) (by decide +kernel)) rfl) (gt_of (List.mem_of_getElem? (i := 1128) (by decide +kernel)) rfl) (gt_of (List.mem_of_getElem? (i := 119) (by decide +kernel)) rfl), gt_of (List.mem_of_getElem? (i := 1129) (by decide +kernel)) rfl⟩, by decide +kernel, by decide⟩
theorem cw_RX10_302 : CwV RX10 302 RX6 yX6_addSeen cX6_addSeen 3 (some .boolean) 2 := ⟨⟨gt_4 (gt_of (List.mem_of_getElem? (i := 1134) (by decide +kernel)) rfl) (gt_of (List.mem_of_getElem? (i := 1135) (by decide +kernel)) rfl) (gt_of (List.mem_of_getElem? (i := 1136) (by decide +kernel)) rfl) (gt_of (List.mem_of_getElem? (i := 120) (by decide +kernel)) rfl), gt_of (List.mem_of_getElem? (i := 1137) (by decide +kernel)) rfl⟩, by decide +kernel, by decide⟩
theorem cw_RX10_306 : CwV RX10 306 RX5 yX5_suspects cX5_suspects 3 (some .int) 0 := ⟨⟨gt_4 (gt_of (List.mem_of_getElem? (i := 1142) (by decide +kernel)) rfl) (gt_of (List.mem_of_getElem? (i := 1143) (by decide +kernel)) rfl) (gt_of (List.mem_of_getElem? (i := 1144) (by decide +kernel)) rfl) (gt_of (List.mem_of_getElem? (i := 121) (by decide +kernel)) rfl), gt_of (List.mem_of_getElem? (i := 1145) (by decide +kernel)) rfl⟩, by decide +kernel, by decide⟩
theorem cw_RX10_309 : CwV RX10 309 RX5 yX5_bestQuestion cX5_bestQuestion 6 (some .int) 0 := ⟨⟨gt_4 (gt_of (List.mem_of_getElem? (i := 1159) (by decide +kernel)) rfl) (gt_of (List.mem_of_getElem? (i := 1160) (by decide +kernel)) rfl) (gt_of (List.mem_of_getElem? (i := 1161) (by decide +kernel)) rfl) (gt_of (List.mem_of_getElem? (i := 121) (by decide +kernel)) rfl), gt_of (List.mem_of_getElem? (i := 1162) (by decide +kernel)) rfl⟩, by decide +kernel, by decide⟩
theorem cw_RX10_312 : CwV RX10 312 RX6 yX6_copy cX6_copy 2 none 1 := ⟨⟨gt_4 (gt_of (List.mem_of_getElem? (i := 1173) (by decide +kernel)) rfl) (gt_of (List.mem_of_getElem? (i := 1174) (by decide +kernel)) rfl) (gt_of (List.mem_of_getElem? (i := 1175) (by decide +kernel)) rfl) (gt_of (List.mem_of_getElem? (i := 120) (by decide +kernel)) rfl), gt_of (List.mem_of_getElem? (i := 1176) (by decide +kernel)) rfl⟩, by decide +kernel, by decide⟩
theorem cw_RX10_331 : CwV RX10 331 RX6 yX6_unitsThat cX6_unitsThat 5 (some .int) 1 := ⟨⟨gt_4 (gt_of (List.mem_of_getElem? (i := 1210) (by decide +kernel)) rfl) (gt_of (List.mem_of_getElem? (i := 1211) (by decide +kernel)) rfl) (gt_of (List.mem_of_getElem? (i := 1212) (by decide +kernel)) rfl) (gt_of (List.mem_of_getElem? (i := 120) (by decide +kernel)) rfl), gt_of (List.mem_of_getElem? (i := 1213) (by decide +kernel)) rfl⟩, by decide +kernel, by decide⟩
theorem cw_RX10_337 : CwV RX10 337 RX2 yX2_below cX2_below 2 (some .int) 1 := ⟨⟨gt_4 (gt_of (List.mem_of_getElem? (i := 1194) (by decide +kernel)) rfl) (gt_of (List.mem_of_getElem? (i := 1195) (by decide +kernel)) rfl) (gt_of (List.mem_of_getElem? (i := 1196) (by decide +kernel)) rfl) (gt_of (List.mem_of_getElem? (i := 136) (by decide +kernel)) rfl), gt_of (List.mem_of_getElem? (i := 1197) (by decide +kernel)) rfl⟩, by decide +kernel, by decide⟩
theorem cw_RX11_149 : CwV RX11 149 RX11 yX11_fresh0 cX11_fresh0 2 none 0 := ⟨⟨gt_4 (gt_of (List.mem_of_getElem? (i := 1297) (by decide +kernel)) rfl) (gt_of (List.mem_of_getElem? (i := 1299) (by decide +kernel)) rfl) (gt_of (List.mem_of_getElem? (i := 40) (by decide +kernel)) rfl) (gt_of (List.mem_of_getElem? (i := 122) (by decide +kernel)) rfl), gt_of (List.mem_of_getElem? (i := 1300) (by decide +kernel)) rfl⟩, by decide +kernel, by decide⟩
theorem cw_RX11_180 : CwV RX11 180 RX11 yX11_signAt cX11_signAt 2 (some .int) 1 := ⟨⟨gt_4 (gt_of (List.mem_of_getElem? (i := 1504) (by decide +kernel)) rfl) (gt_of (List.mem_of_getElem? (i := 1506) (by decide +kernel)) rfl) (gt_of (List.mem_of_getElem? (i := 44) (by decide +kernel)) rfl) (gt_of (List.mem_of_getElem? (i := 122) (by decide +kernel)) rfl), gt_of (List.mem_of_getElem? (i := 1507) (by decide +kernel)) rfl⟩, by decide +kernel, by decide⟩
theorem cw_RX11_202 : CwV RX11 202 RX11 yX11_fact cX11_fact 1 (some .int) 0 := ⟨⟨gt_4 (gt_of (List.mem_of_getElem? (i := 1566) (by decide +kernel)) rfl) (gt_of (List.mem_of_getElem? (i := 1568) (by decide +kernel)) rfl) (gt_of (List.mem_of_getElem? (i := 55) (by decide +kernel)) rfl) (gt_of (List.mem_of_getElem? (i := 122) (by decide +kernel)) rfl), gt_of (List.mem_of_getElem? (i := 1569) (by decide +kernel)) rfl⟩, by decide +kernel, by decide⟩
theorem cw_RX11_208 : CwV RX11 208 RX11 yX11_isWord cX11_isWord 3 (some .boolean) 1 := ⟨⟨gt_4 (gt_of (List.mem_of_getElem? (i := 1511) (by decide +kernel)) rfl) (gt_of (List.mem_of_getElem? (i := 1513) (by decide +kernel)) rfl) (gt_of (List.mem_of_getElem? (i := 45) (by decide +kernel)) rfl) (gt_of (List.mem_of_getElem? (i := 122) (by decide +kernel)) rfl), gt_of (List.mem_of_getElem? (i := 1514) (by decide +kernel)) rfl⟩, by decide +kernel, by decide⟩
theorem cw_RX11_212 : CwV RX11 212 RX11 yX11_isSign cX11_isSign 2 (some .boolean) 1 := ⟨⟨gt_4 (gt_of (List.mem_of_getElem? (i := 1534) (by decide +kernel)) rfl) (gt_of (List.mem_of_getElem? (i := 1536) (by decide +kernel)) rfl) (gt_of (List.mem_of_getElem? (i := 50) (by decide +kernel)) rfl) (gt_of (List.mem_of_getElem? (i := 122) (by decide +kernel)) rfl), gt_of (List.mem_of_getElem? (i := 1537) (by decide +kernel)) rfl⟩, by decide +kernel, by decide⟩
theorem cw_RX11_216 : CwV RX11 216 RX11 yX11_fails cX11_fails 2 (some .boolean) 1 := ⟨⟨gt_4 (gt_of (List.mem_of_getElem? (i := 1519) (by decide +kernel)) rfl) (gt_of (List.mem_of_getElem? (i := 1521) (by decide +kernel)) rfl) (gt_of (List.mem_of_getElem? (i := 47) (by decide +kernel)) rfl) (gt_of (List.mem_of_getElem? (i := 122) (by decide +kernel)) rfl), gt_of (List.mem_of_getElem? (i := 1522) (by decide +kernel)) rfl⟩, by decide +kernel, by decide⟩
theorem cw_RX11_219 : CwV RX11 219 RX11 yX11_puts cX11_puts 2 none 1 := ⟨⟨gt_4 (gt_of (List.mem_of_getElem? (i := 1575) (by decide +kernel)) rfl) (gt_of (List.mem_of_getElem? (i := 1577) (by decide +kernel)) rfl) (gt_of (List.mem_of_getElem? (i := 56) (by decide +kernel)) rfl) (gt_of (List.mem_of_getElem? (i := 122) (by decide +kernel)) rfl), gt_of (List.mem_of_getElem? (i := 1578) (by decide +kernel)) rfl⟩, by decide +kernel, by decide⟩
theorem cw_RX11_223 : CwV RX11 223 RX11 yX11_nextToken cX11_nextToken 2 none 0 := ⟨⟨gt_4 (gt_of (List.mem_of_getElem? (i := 1500) (by decide +kernel)) rfl) (gt_of (List.mem_of_getElem? (i := 1502) (by decide +kernel)) rfl) (gt_of (List.mem_of_getElem? (i := 43) (by decide +kernel)) rfl) (gt_of (List.mem_of_getElem? (i := 122) (by decide +kernel)) rfl), gt_of (List.mem_of_getElem? (i := 1503) (by decide +kernel)) rfl⟩, by decide +kernel, by decide⟩
theorem cw_RX11_230 : CwV RX11 230 RX11 yX11_sums cX11_sums 2 none 1 := ⟨⟨gt_4 (gt_of (List.mem_of_getElem? (i := 1609) (by decide +kernel)) rfl) (gt_of (List.mem_of_getElem? (i := 1611) (by decide +kernel)) rfl) (gt_of (List.mem_of_getElem? (i := 63) (by decide +kernel)) rfl) (gt_of (List.mem_of_getElem? (i := 122) (by decide +kernel)) rfl), gt_of (List.mem_of_getElem? (i := 1612) (by decide +kernel)) rfl⟩, by decide +kernel, by decide⟩
theorem cw_RX11_233 : CwV RX11 233 RX11 yX11_opens cX11_opens 2 none 1 := ⟨⟨gt_4 (gt_of (List.mem_of_getElem? (i := 1605) (by decide +kernel)) rfl) (gt_of (List.mem_of_getElem? (i := 1607) (by decide +kernel)) rfl) (gt_of (List.mem_of_getElem? (i := 62) (by decide +kernel)) rfl) (gt_of (List.mem_of_getElem? (i := 122) (by decide +kernel)) rfl), gt_of (List.mem_of_getElem? (i := 1608) (by decide +kernel)) rfl⟩, by decide +kernel, by decide⟩
theorem cw_RX11_236 : CwV RX11 236 RX11 yX11_tests cX11_tests 3 none 1 := ⟨⟨gt_4 (gt_of (List.mem_of_getElem? (i := 1613) (by decide +kernel)) rfl) (gt_of (List.mem_of_getElem? (i := 1615) (by decide +kernel)) rfl) (gt_of (List.mem_of_getElem? (i := 64) (by decide +kernel)) rfl) (gt_of (List.mem_of_getElem? (i := 122) (by decide +kernel)) rfl), gt_of (List.mem_of_getElem? (i := 1616) (by decide +kernel)) rfl⟩, by decide +kernel, by decide⟩
theorem cw_RX11_246 : CwV RX11 246 RX11 yX11_needsNumber cX11_needsNumber 3 (some .boolean) 2 := ⟨⟨gt_4 (gt_of (List.mem_of_getElem? (i := 1523) (by decide +kernel)) rfl) (gt_of (List.mem_of_getElem? (i := 1525) (by decide +kernel)) rfl) (gt_of (List.mem_of_getElem? (i := 48) (by decide +kernel)) rfl) (gt_of (List.mem_of_getElem? (i := 122) (by decide +kernel)) rfl), gt_of (List.mem_of_getElem? (i := 1526) (by decide +kernel)) rfl⟩, by decide +kernel, by decide⟩
theorem cw_RX11_250 : CwV RX11 250 RX11 yX11_closes cX11_closes 1 (some .boolean) 0 := ⟨⟨gt_4 (gt_of (List.mem_of_getElem? (i := 1530) (by decide +kernel)) rfl) (gt_of (List.mem_of_getElem? (i := 1532) (by decide +kernel)) rfl) (gt_of (List.mem_of_getElem? (i := 49) (by decide +kernel)) rfl) (gt_of (List.mem_of_getElem? (i := 122) (by decide +kernel)) rfl), gt_of (List.mem_of_getElem? (i := 1533) (by decide +kernel)) rfl⟩, by decide +kernel, by decide⟩
theorem cw_RX11_258 : CwV RX11 258 RX11 yX11_reads cX11_reads 6 (some .boolean) 0 := ⟨⟨gt_4 (gt_of (List.mem_of_getElem? (i := 1562) (by decide +kernel)) rfl) (gt_of (List.mem_of_getElem? (i := 1564) (by decide +kernel)) rfl) (gt_of (List.mem_of_getElem? (i := 54) (by decide +kernel)) rfl) (gt_of (List.mem_of_getElem? (i := 122) (by decide +kernel)) rfl), gt_of (List.mem_of_getElem? (i := 1565) (by decide +kernel)) rfl⟩, by decide +kernel, by decide⟩
theorem cw_RX11_276 : CwV RX11 276 RX11 yX11_allStripes cX11_allStripes 5 (some .int) 2 := ⟨⟨gt_4 (gt_of (List.mem_of_getElem? (i := 1550) (by decide +kernel)) rfl) (gt_of (List.mem_of_getElem? (i := 1552) (by decide +kernel)) rfl) (gt_of (List.mem_of_getElem? (i := 52) (by decide +kernel)) rfl) (gt_of (List.mem_of_getElem? (i := 122) (by decide +kernel)) rfl), gt_of (List.mem_of_getElem? (i := 1553) (by decide +kernel)) rfl⟩, by decide +kernel, by decide⟩
theorem cw_RX11_279 : CwV RX11 279 RX11 yX11_begins cX11_begins 1 none 0 := ⟨⟨gt_4 (gt_of (List.mem_of_getElem? (i := 1496) (by decide +kernel)) rfl) (gt_of (List.mem_of_getElem? (i := 1498) (by decide +kernel)) rfl) (gt_of (List.mem_of_getElem? (i := 42) (by decide +kernel)) rfl) (gt_of (List.mem_of_getElem? (i := 122) (by decide +kernel)) rfl), gt_of (List.mem_of_getElem? (i := 1499) (by decide +kernel)) rfl⟩, by decide +kernel, by decide⟩
theorem cw_RX11_284 : CwV RX11 284 RX11 yX11_readsDisks cX11_readsDisks 1 (some .boolean) 0 := ⟨⟨gt_4 (gt_of (List.mem_of_getElem? (i := 1515) (by decide +kernel)) rfl) (gt_of (List.mem_of_getElem? (i := 1517) (by decide +kernel)) rfl) (gt_of (List.mem_of_getElem? (i := 46) (by decide +kernel)) rfl) (gt_of (List.mem_of_getElem? (i := 122) (by decide +kernel)) rfl), gt_of (List.mem_of_getElem? (i := 1518) (by decide +kernel)) rfl⟩, by decide +kernel, by decide⟩
theorem cw_RX11_289 : CwV RX11 289 RX11 yX11_readsBlock cX11_readsBlock 3 (some .boolean) 0 := ⟨⟨gt_4 (gt_of (List.mem_of_getElem? (i := 1539) (by decide +kernel)) rfl) (gt_of (List.mem_of_getElem? (i := 1541) (by decide +kernel)) rfl) (gt_of (List.mem_of_getElem? (i := 51) (by decide +kernel)) rfl) (gt_of (List.mem_of_getElem? (i := 122) (by decide +kernel)) rfl), gt_of (List.mem_of_getElem? (i := 1542) (by decide +kernel)) rfl⟩, by decide +kernel, by decide⟩
theorem cw_RX11_294 : CwV RX11 294 RX11 yX11_readsParity cX11_readsParity 1 (some .boolean) 0 := ⟨⟨gt_4 (gt_of (List.mem_of_getElem? (i := 1558) (by decide +kernel)) rfl) (gt_of (List.mem_of_getElem? (i := 1560) (by decide +kernel)) rfl) (gt_of (List.mem_of_getElem? (i := 53) (by decide +kernel)) rfl) (gt_of (List.mem_of_getElem? (i := 122) (by decide +kernel)) rfl), gt_of (List.mem_of_getElem? (i := 1561) (by decide +kernel)) rfl⟩, by decide +kernel, by decide⟩
theorem cw_RX11_299 : CwV RX11 299 RX11 yX11_readsSpeed cX11_readsSpeed 1 (some .boolean) 0 := ⟨⟨gt_4 (gt_of (List.mem_of_getElem? (i := 1582) (by decide +kernel)) rfl) (gt_of (List.mem_of_getElem? (i := 1584) (by decide +kernel)) rfl) (gt_of (List.mem_of_getElem? (i := 57) (by decide +kernel)) rfl) (gt_of (List.mem_of_getElem? (i := 122) (by decide +kernel)) rfl), gt_of (List.mem_of_getElem? (i := 1585) (by decide +kernel)) rfl⟩, by decide +kernel, by decide⟩
theorem cw_RX11_306 : CwV RX11 306 RX11 yX11_worked cX11_worked 6 (some .int) 1 := ⟨⟨gt_4 (gt_of (List.mem_of_getElem? (i := 1601) (by decide +kernel)) rfl) (gt_of (List.mem_of_getElem? (i := 1603) (by decide +kernel)) rfl) (gt_of (List.mem_of_getElem? (i := 61) (by decide +kernel)) rfl) (gt_of (List.mem_of_getElem? (i := 122) (by decide +kernel)) rfl), gt_of (List.mem_of_getElem? (i := 1604) (by decide +kernel)) rfl⟩, by decide +kernel, by decide⟩
theorem cw_RX11_309 : CwV RX11 309 RX11 yX11_unitOn cX11_unitOn 4 (some .int) 2 := ⟨⟨gt_4 (gt_of (List.mem_of_getElem? (i := 1621) (by decide +kernel)) rfl) (gt_of (List.mem_of_getElem? (i := 1623) (by decide +kernel)) rfl) (gt_of (List.mem_of_getElem? (i := 66) (by decide +kernel)) rfl) (gt_of (List.mem_of_getElem? (i := 122) (by decide +kernel)) rfl), gt_of (List.mem_of_getElem? (i := 1624) (by decide +kernel)) rfl⟩, by decide +kernel, by decide⟩
theorem cw_RX11_312 : CwV RX11 312 RX11 yX11_sparesOn cX11_sparesOn 6 (some .int) 3 := ⟨⟨gt_4 (gt_of (List.mem_of_getElem? (i := 1629) (by decide +kernel)) rfl) (gt_of (List.mem_of_getElem? (i := 1631) (by decide +kernel)) rfl) (gt_of (List.mem_of_getElem? (i := 68) (by decide +kernel)) rfl) (gt_of (List.mem_of_getElem? (i := 122) (by decide +kernel)) rfl), gt_of (List.mem_of_getElem? (i := 1632) (by decide +kernel)) rfl⟩, by decide +kernel, by decide⟩
theorem cw_RX11_316 : CwV RX11 316 RX11 yX11_unitsOn cX11_unitsOn 6 (some .int) 3 := ⟨⟨gt_4 (gt_of (List.mem_of_getElem? (i := 1617) (by decide +kernel)) rfl) (gt_of (List.mem_of_getElem? (i := 1619) (by decide +kernel)) rfl) (gt_of (List.mem_of_getElem? (i := 65) (by decide +kernel)) rfl) (gt_of (List.mem_of_getElem? (i := 122) (by decide +kernel)) rfl), gt_of (List.mem_of_getElem? (i := 1620) (by decide +kernel)) rfl⟩, by decide +kernel, by decide⟩
theorem cw_RX11_319 : CwV RX11 319 RX11 yX11_laysStripe cX11_laysStripe 9 none 5 := ⟨⟨gt_4 (gt_of (List.mem_of_getElem? (i := 1597) (by decide +kernel)) rfl) (gt_of (List.mem_of_getElem? (i := 1599) (by decide +kernel)) rfl) (gt_of (List.mem_of_getElem? (i := 60) (by decide +kernel)) rfl) (gt_of (List.mem_of_getElem? (i := 122) (by decide +kernel)) rfl), gt_of (List.mem_of_getElem? (i := 1600) (by decide +kernel)) rfl⟩, by decide +kernel, by decide⟩
theorem cw_RX11_323 : CwV RX11 323 RX11 yX11_laysSpare cX11_laysSpare 7 none 3 := ⟨⟨gt_4 (gt_of (List.mem_of_getElem? (i := 1625) (by decide +kernel)) rfl) (gt_of (List.mem_of_getElem? (i := 1627) (by decide +kernel)) rfl) (gt_of (List.mem_of_getElem? (i := 67) (by decide +kernel)) rfl) (gt_of (List.mem_of_getElem? (i := 122) (by decide +kernel)) rfl), gt_of (List.mem_of_getElem? (i := 1628) (by decide +kernel)) rfl⟩, by decide +kernel, by decide⟩
theorem cw_RX11_339 : CwV RX11 339 RX11 yX11_readsAll cX11_readsAll 2 (some .boolean) 0 := ⟨⟨gt_4 (gt_of (List.mem_of_getElem? (i := 1492) (by decide +kernel)) rfl) (gt_of (List.mem_of_getElem? (i := 1494) (by decide +kernel)) rfl) (gt_of (List.mem_of_getElem? (i := 41) (by decide +kernel)) rfl) (gt_of (List.mem_of_getElem? (i := 122) (by decide +kernel)) rfl), gt_of (List.mem_of_getElem? (i := 1495) (by decide +kernel)) rfl⟩, by decide +kernel, by decide⟩
theorem cw_RX11_342 : CwV RX11 342 RX11 yX11_lays cX11_lays 1 none 0 := ⟨⟨gt_4 (gt_of (List.mem_of_getElem? (i := 1586) (by decide +kernel)) rfl) (gt_of (List.mem_of_getElem? (i := 1588) (by decide +kernel)) rfl) (gt_of (List.mem_of_getElem? (i := 58) (by decide +kernel)) rfl) (gt_of (List.mem_of_getElem? (i := 122) (by decide +kernel)) rfl), gt_of (List.mem_of_getElem? (i := 1589) (by decide +kernel)) rfl⟩, by decide +kernel, by decide⟩
theorem cw_RX11_345 : CwV RX11 345 RX11 yX11_laysAll cX11_laysAll 6 none 2 := ⟨⟨gt_4 (gt_of (List.mem_of_getElem? (i := 1593) (by decide +kernel)) rfl) (gt_of (List.mem_of_getElem? (i := 1595) (by decide +kernel)) rfl) (gt_of (List.mem_of_getElem? (i := 59) (by decide +kernel)) rfl) (gt_of (List.mem_of_getElem? (i := 122) (by decide +kernel)) rfl), gt_of (List.mem_of_getElem? (i := 1596) (by decide +kernel)) rfl⟩, by decide +kernel, by decide⟩
theorem cw_RX11_349 : CwV RX11 349 RX11 yX11_readsLine cX11_readsLine 4 (some .boolean) 0 := ⟨⟨gt_4 (gt_of (List.mem_of_getElem? (i := 1637) (by decide +kernel)) rfl) (gt_of (List.mem_of_getElem? (i := 1639) (by decide +kernel)) rfl) (gt_of (List.mem_of_getElem? (i := 69) (by decide +kernel)) rfl) (gt_of (List.mem_of_getElem? (i := 122) (by decide +kernel)) rfl), gt_of (List.mem_of_getElem? (i := 1640) (by decide +kernel)) rfl⟩, by decide +kernel, by decide⟩
theorem cw_RX11_352 : CwV RX11 352 RX11 yX11_laysLines cX11_laysLines 4 none 2 := ⟨⟨gt_4 (gt_of (List.mem_of_getElem? (i := 1647) (by decide +kernel)) rfl) (gt_of (List.mem_of_getElem? (i := 1649) (by decide +kernel)) rfl) (gt_of (List.mem_of_getElem? (i := 70) (by decide +kernel)) rfl) (gt_of (List.mem_of_getElem? (i := 122) (by decide +kernel)) rfl), gt_of (List.mem_of_getElem? (i := 1650) (by decide +kernel)) rfl⟩, by decide +kernel, by decide⟩
theorem cw_RX11_355 : CwV RX11 355 RX11 yX11_lostIn cX11_lostIn 4 (some .int) 1 := ⟨⟨gt_4 (gt_of (List.mem_of_getElem? (i := 1667) (by decide +kernel)) rfl) (gt_of (List.mem_of_getElem? (i := 1669) (by decide +kernel)) rfl) (gt_of (List.mem_of_getElem? (i := 73) (by decide +kernel)) rfl) (gt_of (List.mem_of_getElem? (i := 122) (by decide +kernel)) rfl), gt_of (List.mem_of_getElem? (i := 1670) (by decide +kernel)) rfl⟩, by decide +kernel, by decide⟩
theorem cw_RX11_358 : CwV RX11 358 RX11 yX11_diskNow cX11_diskNow 3 (some .int) 1 := ⟨⟨gt_4 (gt_of (List.mem_of_getElem? (i := 1683) (by decide +kernel)) rfl) (gt_of (List.mem_of_getElem? (i := 1685) (by decide +kernel)) rfl) (gt_of (List.mem_of_getElem? (i := 76) (by decide +kernel)) rfl) (gt_of (List.mem_of_getElem? (i := 122) (by decide +kernel)) rfl), gt_of (List.mem_of_getElem? (i := 1686) (by decide +kernel)) rfl⟩, by decide +kernel, by decide⟩
theorem cw_RX11_361 : CwV RX11 361 RX11 yX11_isDead cX11_isDead 2 (some .boolean) 1 := ⟨⟨gt_4 (gt_of (List.mem_of_getElem? (i := 1663) (by decide +kernel)) rfl) (gt_of (List.mem_of_getElem? (i := 1665) (by decide +kernel)) rfl) (gt_of (List.mem_of_getElem? (i := 72) (by decide +kernel)) rfl) (gt_of (List.mem_of_getElem? (i := 122) (by decide +kernel)) rfl), gt_of (List.mem_of_getElem? (i := 1666) (by decide +kernel)) rfl⟩, by decide +kernel, by decide⟩
theorem cw_RX11_364 : CwV RX11 364 RX11 yX11_loads0 cX11_loads0 4 none 2 := ⟨⟨gt_4 (gt_of (List.mem_of_getElem? (i := 1723) (by decide +kernel)) rfl) (gt_of (List.mem_of_getElem? (i := 1725) (by decide +kernel)) rfl) (gt_of (List.mem_of_getElem? (i := 83) (by decide +kernel)) rfl) (gt_of (List.mem_of_getElem? (i := 122) (by decide +kernel)) rfl), gt_of (List.mem_of_getElem? (i := 1726) (by decide +kernel)) rfl⟩, by decide +kernel, by decide⟩
theorem cw_RX11_367 : CwV RX11 367 RX11 yX11_priceOf cX11_priceOf 3 (some .int) 1 := ⟨⟨gt_4 (gt_of (List.mem_of_getElem? (i := 1739) (by decide +kernel)) rfl) (gt_of (List.mem_of_getElem? (i := 1741) (by decide +kernel)) rfl) (gt_of (List.mem_of_getElem? (i := 86) (by decide +kernel)) rfl) (gt_of (List.mem_of_getElem? (i := 122) (by decide +kernel)) rfl), gt_of (List.mem_of_getElem? (i := 1742) (by decide +kernel)) rfl⟩, by decide +kernel, by decide⟩
theorem cw_RX11_370 : CwV RX11 370 RX11 yX11_lostUnit cX11_lostUnit 3 (some .int) 1 := ⟨⟨gt_4 (gt_of (List.mem_of_getElem? (i := 1767) (by decide +kernel)) rfl) (gt_of (List.mem_of_getElem? (i := 1769) (by decide +kernel)) rfl) (gt_of (List.mem_of_getElem? (i := 90) (by decide +kernel)) rfl) (gt_of (List.mem_of_getElem? (i := 122) (by decide +kernel)) rfl), gt_of (List.mem_of_getElem? (i := 1770) (by decide +kernel)) rfl⟩, by decide +kernel, by decide⟩
theorem cw_RX11_373 : CwV RX11 373 RX11 yX11_isUp cX11_isUp 2 (some .boolean) 1 := ⟨⟨gt_4 (gt_of (List.mem_of_getElem? (i := 1747) (by decide +kernel)) rfl) (gt_of (List.mem_of_getElem? (i := 1749) (by decide +kernel)) rfl) (gt_of (List.mem_of_getElem? (i := 87) (by decide +kernel)) rfl) (gt_of (List.mem_of_getElem? (i := 122) (by decide +kernel)) rfl), gt_of (List.mem_of_getElem? (i := 1750) (by decide +kernel)) rfl⟩, by decide +kernel, by decide⟩
theorem cw_RX11_376 : CwV RX11 376 RX11 yX11_awayIn cX11_awayIn 3 (some .int) 1 := ⟨⟨gt_4 (gt_of (List.mem_of_getElem? (i := 1655) (by decide +kernel)) rfl) (gt_of (List.mem_of_getElem? (i := 1657) (by decide +kernel)) rfl) (gt_of (List.mem_of_getElem? (i := 71) (by decide +kernel)) rfl) (gt_of (List.mem_of_getElem? (i := 122) (by decide +kernel)) rfl), gt_of (List.mem_of_getElem? (i := 1658) (by decide +kernel)) rfl⟩, by decide +kernel, by decide⟩
theorem cw_RX11_379 : CwV RX11 379 RX11 yX11_byteOf cX11_byteOf 5 (some .int) 2 := ⟨⟨gt_4 (gt_of (List.mem_of_getElem? (i := 1671) (by decide +kernel)) rfl) (gt_of (List.mem_of_getElem? (i := 1673) (by decide +kernel)) rfl) (gt_of (List.mem_of_getElem? (i := 74) (by decide +kernel)) rfl) (gt_of (List.mem_of_getElem? (i := 122) (by decide +kernel)) rfl), gt_of (List.mem_of_getElem? (i := 1674) (by decide +kernel)) rfl⟩, by decide +kernel, by decide⟩
theorem cw_RX11_382 : CwV RX11 382 RX11 yX11_isDatum cX11_isDatum 2 (some .boolean) 1 := ⟨⟨gt_4 (gt_of (List.mem_of_getElem? (i := 1679) (by decide +kernel)) rfl) (gt_of (List.mem_of_getElem? (i := 1681) (by decide +kernel)) rfl) (gt_of (List.mem_of_getElem? (i := 75) (by decide +kernel)) rfl) (gt_of (List.mem_of_getElem? (i := 122) (by decide +kernel)) rfl), gt_of (List.mem_of_getElem? (i := 1682) (by decide +kernel)) rfl⟩, by decide +kernel, by decide⟩
theorem cw_RX11_385 : CwV RX11 385 RX11 yX11_isDisk cX11_isDisk 2 (some .boolean) 1 := ⟨⟨gt_4 (gt_of (List.mem_of_getElem? (i := 1691) (by decide +kernel)) rfl) (gt_of (List.mem_of_getElem? (i := 1693) (by decide +kernel)) rfl) (gt_of (List.mem_of_getElem? (i := 77) (by decide +kernel)) rfl) (gt_of (List.mem_of_getElem? (i := 122) (by decide +kernel)) rfl), gt_of (List.mem_of_getElem? (i := 1694) (by decide +kernel)) rfl⟩, by decide +kernel, by decide⟩
theorem cw_RX11_388 : CwV RX11 388 RX11 yX11_paritiesOn cX11_paritiesOn 4 (some .int) 1 := ⟨⟨gt_4 (gt_of (List.mem_of_getElem? (i := 1703) (by decide +kernel)) rfl) (gt_of (List.mem_of_getElem? (i := 1705) (by decide +kernel)) rfl) (gt_of (List.mem_of_getElem? (i := 79) (by decide +kernel)) rfl) (gt_of (List.mem_of_getElem? (i := 122) (by decide +kernel)) rfl), gt_of (List.mem_of_getElem? (i := 1706) (by decide +kernel)) rfl⟩, by decide +kernel, by decide⟩
theorem cw_RX11_391 : CwV RX11 391 RX11 yX11_ofDisk cX11_ofDisk 3 (some .int) 2 := ⟨⟨gt_4 (gt_of (List.mem_of_getElem? (i := 1699) (by decide +kernel)) rfl) (gt_of (List.mem_of_getElem? (i := 1701) (by decide +kernel)) rfl) (gt_of (List.mem_of_getElem? (i := 78) (by decide +kernel)) rfl) (gt_of (List.mem_of_getElem? (i := 122) (by decide +kernel)) rfl), gt_of (List.mem_of_getElem? (i := 1702) (by decide +kernel)) rfl⟩, by decide +kernel, by decide⟩
theorem cw_RX11_394 : CwV RX11 394 RX11 yX11_thereOn cX11_thereOn 5 (some .int) 1 := ⟨⟨gt_4 (gt_of (List.mem_of_getElem? (i := 1707) (by decide +kernel)) rfl) (gt_of (List.mem_of_getElem? (i := 1709) (by decide +kernel)) rfl) (gt_of (List.mem_of_getElem? (i := 80) (by decide +kernel)) rfl) (gt_of (List.mem_of_getElem? (i := 122) (by decide +kernel)) rfl), gt_of (List.mem_of_getElem? (i := 1710) (by decide +kernel)) rfl⟩, by decide +kernel, by decide⟩
theorem cw_RX11_397 : CwV RX11 397 RX11 yX11_canRead cX11_canRead 2 (some .boolean) 1 := ⟨⟨gt_4 (gt_of (List.mem_of_getElem? (i := 1715) (by decide +kernel)) rfl) (gt_of (List.mem_of_getElem? (i := 1717) (by decide +kernel)) rfl) (gt_of (List.mem_of_getElem? (i := 81) (by decide +kernel)) rfl) (gt_of (List.mem_of_getElem? (i := 122) (by decide +kernel)) rfl), gt_of (List.mem_of_getElem? (i := 1718) (by decide +kernel)) rfl⟩, by decide +kernel, by decide⟩
theorem cw_RX11_400 : CwV RX11 400 RX11 yX11_readsDatum cX11_readsDatum 5 (some .int) 1 := ⟨⟨gt_4 (gt_of (List.mem_of_getElem? (i := 1719) (by decide +kernel)) rfl) (gt_of (List.mem_of_getElem? (i := 1721) (by decide +kernel)) rfl) (gt_of (List.mem_of_getElem? (i := 82) (by decide +kernel)) rfl) (gt_of (List.mem_of_getElem? (i := 122) (by decide +kernel)) rfl), gt_of (List.mem_of_getElem? (i := 1722) (by decide +kernel)) rfl⟩, by decide +kernel, by decide⟩
theorem cw_RX11_403 : CwV RX11 403 RX11 yX11_canWrite cX11_canWrite 2 (some .boolean) 1 := ⟨⟨gt_4 (gt_of (List.mem_of_getElem? (i := 1731) (by decide +kernel)) rfl) (gt_of (List.mem_of_getElem? (i := 1733) (by decide +kernel)) rfl) (gt_of (List.mem_of_getElem? (i := 84) (by decide +kernel)) rfl) (gt_of (List.mem_of_getElem? (i := 122) (by decide +kernel)) rfl), gt_of (List.mem_of_getElem? (i := 1734) (by decide +kernel)) rfl⟩, by decide +kernel, by decide⟩
theorem cw_RX11_406 : CwV RX11 406 RX11 yX11_writesDatum cX11_writesDatum 7 (some .int) 2 := ⟨⟨gt_4 (gt_of (List.mem_of_getElem? (i := 1735) (by decide +kernel)) rfl) (gt_of (List.mem_of_getElem? (i := 1737) (by decide +kernel)) rfl) (gt_of (List.mem_of_getElem? (i := 85) (by decide +kernel)) rfl) (gt_of (List.mem_of_getElem? (i := 122) (by decide +kernel)) rfl), gt_of (List.mem_of_getElem? (i := 1738) (by decide +kernel)) rfl⟩, by decide +kernel, by decide⟩
theorem cw_RX11_409 : CwV RX11 409 RX11 yX11_losesDisk cX11_losesDisk 5 (some .int) 1 := ⟨⟨gt_4 (gt_of (List.mem_of_getElem? (i := 1751) (by decide +kernel)) rfl) (gt_of (List.mem_of_getElem? (i := 1753) (by decide +kernel)) rfl) (gt_of (List.mem_of_getElem? (i := 88) (by decide +kernel)) rfl) (gt_of (List.mem_of_getElem? (i := 122) (by decide +kernel)) rfl), gt_of (List.mem_of_getElem? (i := 1754) (by decide +kernel)) rfl⟩, by decide +kernel, by decide⟩
theorem cw_RX11_412 : CwV RX11 412 RX11 yX11_rebuilds cX11_rebuilds 7 (some .int) 1 := ⟨⟨gt_4 (gt_of (List.mem_of_getElem? (i := 1763) (by decide +kernel)) rfl) (gt_of (List.mem_of_getElem? (i := 1765) (by decide +kernel)) rfl) (gt_of (List.mem_of_getElem? (i := 89) (by decide +kernel)) rfl) (gt_of (List.mem_of_getElem? (i := 122) (by decide +kernel)) rfl), gt_of (List.mem_of_getElem? (i := 1766) (by decide +kernel)) rfl⟩, by decide +kernel, by decide⟩
theorem cw_RX11_415 : CwV RX11 415 RX11 yX11_goesHome cX11_goesHome 5 (some .int) 1 := ⟨⟨gt_4 (gt_of (List.mem_of_getElem? (i := 1775) (by decide +kernel)) rfl) (gt_of (List.mem_of_getElem? (i := 1777) (by decide +kernel)) rfl) (gt_of (List.mem_of_getElem? (i := 91) (by decide +kernel)) rfl) (gt_of (List.mem_of_getElem? (i := 122) (by decide +kernel)) rfl), gt_of (List.mem_of_getElem? (i := 1778) (by decide +kernel)) rfl⟩, by decide +kernel, by decide⟩
theorem cw_RX11_422 : CwV RX11 422 RX11 yX11_isDone cX11_isDone 4 (some .boolean) 3 := ⟨⟨gt_4 (gt_of (List.mem_of_getElem? (i := 1786) (by decide +kernel)) rfl) (gt_of (List.mem_of_getElem? (i := 1788) (by decide +kernel)) rfl) (gt_of (List.mem_of_getElem? (i := 92) (by decide +kernel)) rfl) (gt_of (List.mem_of_getElem? (i := 122) (by decide +kernel)) rfl), gt_of (List.mem_of_getElem? (i := 1789) (by decide +kernel)) rfl⟩, by decide +kernel, by decide⟩
theorem cw_RX11_425 : CwV RX11 425 RX11 yX11_allLoads cX11_allLoads 3 (some .int) 0 := ⟨⟨gt_4 (gt_of (List.mem_of_getElem? (i := 1790) (by decide +kernel)) rfl) (gt_of (List.mem_of_getElem? (i := 1792) (by decide +kernel)) rfl) (gt_of (List.mem_of_getElem? (i := 93) (by decide +kernel)) rfl) (gt_of (List.mem_of_getElem? (i := 122) (by decide +kernel)) rfl), gt_of (List.mem_of_getElem? (i := 1793) (by decide +kernel)) rfl⟩, by decide +kernel, by decide⟩
theorem cw_RX11_428 : CwV RX11 428 RX11 yX11_deadOnes cX11_deadOnes 3 (some .int) 0 := ⟨⟨gt_4 (gt_of (List.mem_of_getElem? (i := 1794) (by decide +kernel)) rfl) (gt_of (List.mem_of_getElem? (i := 1796) (by decide +kernel)) rfl) (gt_of (List.mem_of_getElem? (i := 94) (by decide +kernel)) rfl) (gt_of (List.mem_of_getElem? (i := 122) (by decide +kernel)) rfl), gt_of (List.mem_of_getElem? (i := 1797) (by decide +kernel)) rfl⟩, by decide +kernel, by decide⟩
theorem cw_RX11_431 : CwV RX11 431 RX11 yX11_pairsOf cX11_pairsOf 5 (some .int) 2 := ⟨⟨gt_4 (gt_of (List.mem_of_getElem? (i := 1802) (by decide +kernel)) rfl) (gt_of (List.mem_of_getElem? (i := 1804) (by decide +kernel)) rfl) (gt_of (List.mem_of_getElem? (i := 95) (by decide +kernel)) rfl) (gt_of (List.mem_of_getElem? (i := 122) (by decide +kernel)) rfl), gt_of (List.mem_of_getElem? (i := 1805) (by decide +kernel)) rfl⟩, by decide +kernel, by decide⟩
theorem cw_RX11_442 : CwV RX11 442 RX11 yX11_setOf cX11_setOf 4 (some .int) 1 := ⟨⟨gt_4 (gt_of (List.mem_of_getElem? (i := 1824) (by decide +kernel)) rfl) (gt_of (List.mem_of_getElem? (i := 1826) (by decide +kernel)) rfl) (gt_of (List.mem_of_getElem? (i := 96) (by decide +kernel)) rfl) (gt_of (List.mem_of_getElem? (i := 122) (by decide +kernel)) rfl), gt_of (List.mem_of_getElem? (i := 1827) (by decide +kernel)) rfl⟩, by decide +kernel, by decide⟩
theorem cw_RX11_445 : CwV RX11 445 RX11 yX11_differsBy cX11_differsBy 5 (some .int) 2 := ⟨⟨gt_4 (gt_of (List.mem_of_getElem? (i := 1828) (by decide +kernel)) rfl) (gt_of (List.mem_of_getElem? (i := 1830) (by decide +kernel)) rfl) (gt_of (List.mem_of_getElem? (i := 97) (by decide +kernel)) rfl) (gt_of (List.mem_of_getElem? (i := 122) (by decide +kernel)) rfl), gt_of (List.mem_of_getElem? (i := 1831) (by decide +kernel)) rfl⟩, by decide +kernel, by decide⟩
theorem cw_RX11_448 : CwV RX11 448 RX11 yX11_familyBy cX11_familyBy 4 (some .int) 1 := ⟨⟨gt_4 (gt_of (List.mem_of_getElem? (i := 1836) (by decide +kernel)) rfl) (gt_of (List.mem_of_getElem? (i := 1838) (by decide +kernel)) rfl) (gt_of (List.mem_of_getElem? (i := 98) (by decide +kernel)) rfl) (gt_of (List.mem_of_getElem? (i := 122) (by decide +kernel)) rfl), gt_of (List.mem_of_getElem? (i := 1839) (by decide +kernel)) rfl⟩, by decide +kernel, by decide⟩
theorem cw_RX11_451 : CwV RX11 451 RX11 yX11_isAlike cX11_isAlike 3 (some .boolean) 1 := ⟨⟨gt_4 (gt_of (List.mem_of_getElem? (i := 1848) (by decide +kernel)) rfl) (gt_of (List.mem_of_getElem? (i := 1850) (by decide +kernel)) rfl) (gt_of (List.mem_of_getElem? (i := 100) (by decide +kernel)) rfl) (gt_of (List.mem_of_getElem? (i := 122) (by decide +kernel)) rfl), gt_of (List.mem_of_getElem? (i := 1851) (by decide +kernel)) rfl⟩, by decide +kernel, by decide⟩
theorem cw_RX11_454 : CwV RX11 454 RX11 yX11_seeks cX11_seeks 6 (some .int) 3 := ⟨⟨gt_4 (gt_of (List.mem_of_getElem? (i := 1844) (by decide +kernel)) rfl) (gt_of (List.mem_of_getElem? (i := 1846) (by decide +kernel)) rfl) (gt_of (List.mem_of_getElem? (i := 99) (by decide +kernel)) rfl) (gt_of (List.mem_of_getElem? (i := 122) (by decide +kernel)) rfl), gt_of (List.mem_of_getElem? (i := 1847) (by decide +kernel)) rfl⟩, by decide +kernel, by decide⟩
theorem cw_RX11_457 : CwV RX11 457 RX11 yX11_costOf cX11_costOf 2 (some .int) 1 := ⟨⟨gt_4 (gt_of (List.mem_of_getElem? (i := 1856) (by decide +kernel)) rfl) (gt_of (List.mem_of_getElem? (i := 1858) (by decide +kernel)) rfl) (gt_of (List.mem_of_getElem? (i := 101) (by decide +kernel)) rfl) (gt_of (List.mem_of_getElem? (i := 122) (by decide +kernel)) rfl), gt_of (List.mem_of_getElem? (i := 1859) (by decide +kernel)) rfl⟩, by decide +kernel, by decide⟩
theorem cw_RX11_460 : CwV RX11 460 RX11 yX11_unitNow cX11_unitNow 4 (some .int) 2 := ⟨⟨gt_4 (gt_of (List.mem_of_getElem? (i := 1868) (by decide +kernel)) rfl) (gt_of (List.mem_of_getElem? (i := 1870) (by decide +kernel)) rfl) (gt_of (List.mem_of_getElem? (i := 102) (by decide +kernel)) rfl) (gt_of (List.mem_of_getElem? (i := 122) (by decide +kernel)) rfl), gt_of (List.mem_of_getElem? (i := 1871) (by decide +kernel)) rfl⟩, by decide +kernel, by decide⟩
theorem cw_RX11_463 : CwV RX11 463 RX11 yX11_fitsIn cX11_fitsIn 4 (some .boolean) 2 := ⟨⟨gt_4 (gt_of (List.mem_of_getElem? (i := 1876) (by decide +kernel)) rfl) (gt_of (List.mem_of_getElem? (i := 1878) (by decide +kernel)) rfl) (gt_of (List.mem_of_getElem? (i := 103) (by decide +kernel)) rfl) (gt_of (List.mem_of_getElem? (i := 122) (by decide +kernel)) rfl), gt_of (List.mem_of_getElem? (i := 1879) (by decide +kernel)) rfl⟩, by decide +kernel, by decide⟩
theorem cw_RX11_466 : CwV RX11 466 RX11 yX11_deadBy cX11_deadBy 4 (some .int) 2 := ⟨⟨gt_4 (gt_of (List.mem_of_getElem? (i := 1884) (by decide +kernel)) rfl) (gt_of (List.mem_of_getElem? (i := 1886) (by decide +kernel)) rfl) (gt_of (List.mem_of_getElem? (i := 104) (by decide +kernel)) rfl) (gt_of (List.mem_of_getElem? (i := 122) (by decide +kernel)) rfl), gt_of (List.mem_of_getElem? (i := 1887) (by decide +kernel)) rfl⟩, by decide +kernel, by decide⟩
theorem cw_RX11_469 : CwV RX11 469 RX11 yX11_costBefore cX11_costBefore 2 (some .int) 1 := ⟨⟨gt_4 (gt_of (List.mem_of_getElem? (i := 1912) (by decide +kernel)) rfl) (gt_of (List.mem_of_getElem? (i := 1914) (by decide +kernel)) rfl) (gt_of (List.mem_of_getElem? (i := 106) (by decide +kernel)) rfl) (gt_of (List.mem_of_getElem? (i := 122) (by decide +kernel)) rfl), gt_of (List.mem_of_getElem? (i := 1915) (by decide +kernel)) rfl⟩, by decide +kernel, by decide⟩
theorem cw_RX11_472 : CwV RX11 472 RX11 yX11_laysDearer cX11_laysDearer 3 none 0 := ⟨⟨gt_4 (gt_of (List.mem_of_getElem? (i := 1908) (by decide +kernel)) rfl) (gt_of (List.mem_of_getElem? (i := 1910) (by decide +kernel)) rfl) (gt_of (List.mem_of_getElem? (i := 105) (by decide +kernel)) rfl) (gt_of (List.mem_of_getElem? (i := 122) (by decide +kernel)) rfl), gt_of (List.mem_of_getElem? (i := 1911) (by decide +kernel)) rfl⟩, by decide +kernel, by decide⟩
theorem cw_RX11_475 : CwV RX11 475 RX11 yX11_isAsSeen cX11_isAsSeen 3 (some .boolean) 1 := ⟨⟨gt_4 (gt_of (List.mem_of_getElem? (i := 1916) (by decide +kernel)) rfl) (gt_of (List.mem_of_getElem? (i := 1918) (by decide +kernel)) rfl) (gt_of (List.mem_of_getElem? (i := 107) (by decide +kernel)) rfl) (gt_of (List.mem_of_getElem? (i := 122) (by decide +kernel)) rfl), gt_of (List.mem_of_getElem? (i := 1919) (by decide +kernel)) rfl⟩, by decide +kernel, by decide⟩
theorem cw_RX11_478 : CwV RX11 478 RX11 yX11_who cX11_who 3 (some .int) 0 := ⟨⟨gt_4 (gt_of (List.mem_of_getElem? (i := 1924) (by decide +kernel)) rfl) (gt_of (List.mem_of_getElem? (i := 1905) (by decide +kernel)) rfl) (gt_of (List.mem_of_getElem? (i := 1906) (by decide +kernel)) rfl) (gt_of (List.mem_of_getElem? (i := 122) (by decide +kernel)) rfl), gt_of (List.mem_of_getElem? (i := 1907) (by decide +kernel)) rfl⟩, by decide +kernel, by decide⟩
theorem cw_RX11_495 : CwV RX11 495 RX11 yX11_draws cX11_draws 2 (some .int) 1 := ⟨⟨gt_4 (gt_of (List.mem_of_getElem? (i := 1936) (by decide +kernel)) rfl) (gt_of (List.mem_of_getElem? (i := 1938) (by decide +kernel)) rfl) (gt_of (List.mem_of_getElem? (i := 109) (by decide +kernel)) rfl) (gt_of (List.mem_of_getElem? (i := 122) (by decide +kernel)) rfl), gt_of (List.mem_of_getElem? (i := 1939) (by decide +kernel)) rfl⟩, by decide +kernel, by decide⟩
theorem cw_RX11_498 : CwV RX11 498 RX11 yX11_lives cX11_lives 3 none 0 := ⟨⟨gt_4 (gt_of (List.mem_of_getElem? (i := 1932) (by decide +kernel)) rfl) (gt_of (List.mem_of_getElem? (i := 1934) (by decide +kernel)) rfl) (gt_of (List.mem_of_getElem? (i := 108) (by decide +kernel)) rfl) (gt_of (List.mem_of_getElem? (i := 122) (by decide +kernel)) rfl), gt_of (List.mem_of_getElem? (i := 1935) (by decide +kernel)) rfl⟩, by decide +kernel, by decide⟩
theorem cw_RX11_502 : CwV RX11 502 RX11 yX11_laysSeen cX11_laysSeen 4 none 2 := ⟨⟨gt_4 (gt_of (List.mem_of_getElem? (i := 1949) (by decide +kernel)) rfl) (gt_of (List.mem_of_getElem? (i := 1951) (by decide +kernel)) rfl) (gt_of (List.mem_of_getElem? (i := 110) (by decide +kernel)) rfl) (gt_of (List.mem_of_getElem? (i := 122) (by decide +kernel)) rfl), gt_of (List.mem_of_getElem? (i := 1952) (by decide +kernel)) rfl⟩, by decide +kernel, by decide⟩
theorem cw_RX11_505 : CwV RX11 505 RX11 yX11_withStatus cX11_withStatus 5 (some .int) 1 := ⟨⟨gt_4 (gt_of (List.mem_of_getElem? (i := 1957) (by decide +kernel)) rfl) (gt_of (List.mem_of_getElem? (i := 1959) (by decide +kernel)) rfl) (gt_of (List.mem_of_getElem? (i := 111) (by decide +kernel)) rfl) (gt_of (List.mem_of_getElem? (i := 122) (by decide +kernel)) rfl), gt_of (List.mem_of_getElem? (i := 1960) (by decide +kernel)) rfl⟩, by decide +kernel, by decide⟩
theorem cw_RX3_25 : CwV RX3 25 RX3 yX3_push cX3_push 2 none 1 := ⟨⟨gt_4 (gt_of (List.mem_of_getElem? (i := 730) (by decide +kernel)) rfl) (gt_of (List.mem_of_getElem? (i := 732) (by decide +kernel)) rfl) (gt_of (List.mem_of_getElem? (i := 15) (by decide +kernel)) rfl) (gt_of (List.mem_of_getElem? (i := 117) (by decide +kernel)) rfl), gt_of (List.mem_of_getElem? (i := 733) (by decide +kernel)) rfl⟩, by decide +kernel, by decide⟩
theorem cw_RX3_29 : CwV RX3 29 RX3 yX3_pop cX3_pop 1 (some .int) 0 := ⟨⟨gt_4 (gt_of (List.mem_of_getElem? (i := 734) (by decide +kernel)) rfl) (gt_of (List.mem_of_getElem? (i := 736) (by decide +kernel)) rfl) (gt_of (List.mem_of_getElem? (i := 16) (by decide +kernel)) rfl) (gt_of (List.mem_of_getElem? (i := 117) (by decide +kernel)) rfl), gt_of (List.mem_of_getElem? (i := 737) (by decide +kernel)) rfl⟩, by decide +kernel, by decide⟩
theorem cw_RX3_33 : CwV RX3 33 RX3 yX3_pushOther cX3_pushOther 4 none 1 := ⟨⟨gt_4 (gt_of (List.mem_of_getElem? (i := 738) (by decide +kernel)) rfl) (gt_of (List.mem_of_getElem? (i := 740) (by decide +kernel)) rfl) (gt_of (List.mem_of_getElem? (i := 17) (by decide +kernel)) rfl) (gt_of (List.mem_of_getElem? (i := 117) (by decide +kernel)) rfl), gt_of (List.mem_of_getElem? (i := 741) (by decide +kernel)) rfl⟩, by decide +kernel, by decide⟩
theorem cw_RX4_51 : CwV RX4 51 RX4 yX4_clear cX4_clear 3 none 1 := ⟨⟨gt_4 (gt_of (List.mem_of_getElem? (i := 712) (by decide +kernel)) rfl) (gt_of (List.mem_of_getElem? (i := 714) (by decide +kernel)) rfl) (gt_of (List.mem_of_getElem? (i := 13) (by decide +kernel)) rfl) (gt_of (List.mem_of_getElem? (i := 119) (by decide +kernel)) rfl), gt_of (List.mem_of_getElem? (i := 715) (by decide +kernel)) rfl⟩, by decide +kernel, by decide⟩
theorem cw_RX4_61 : CwV RX4 61 RX8 yX8_stripesOfAll cX8_stripesOfAll 5 (some .int) 2 := ⟨⟨gt_4 (gt_of (List.mem_of_getElem? (i := 716) (by decide +kernel)) rfl) (gt_of (List.mem_of_getElem? (i := 664) (by decide +kernel)) rfl) (gt_of (List.mem_of_getElem? (i := 665) (by decide +kernel)) rfl) (gt_of (List.mem_of_getElem? (i := 116) (by decide +kernel)) rfl), gt_of (List.mem_of_getElem? (i := 666) (by decide +kernel)) rfl⟩, by decide +kernel, by decide⟩
theorem cw_RX4_65 : CwV RX4 65 RX8 yX8_stripesOf cX8_stripesOf 3 (some .int) 2 := ⟨⟨gt_4 (gt_of (List.mem_of_getElem? (i := 717) (by decide +kernel)) rfl) (gt_of (List.mem_of_getElem? (i := 668) (by decide +kernel)) rfl) (gt_of (List.mem_of_getElem? (i := 669) (by decide +kernel)) rfl) (gt_of (List.mem_of_getElem? (i := 116) (by decide +kernel)) rfl), gt_of (List.mem_of_getElem? (i := 670) (by decide +kernel)) rfl⟩, by decide +kernel, by decide⟩
theorem cw_RX4_68 : CwV RX4 68 RX4 yX4_addStripe cX4_addStripe 8 none 3 := ⟨⟨gt_4 (gt_of (List.mem_of_getElem? (i := 718) (by decide +kernel)) rfl) (gt_of (List.mem_of_getElem? (i := 720) (by decide +kernel)) rfl) (gt_of (List.mem_of_getElem? (i := 14) (by decide +kernel)) rfl) (gt_of (List.mem_of_getElem? (i := 119) (by decide +kernel)) rfl), gt_of (List.mem_of_getElem? (i := 721) (by decide +kernel)) rfl⟩, by decide +kernel, by decide⟩
theorem cw_RX4_75 : CwV RX4 75 RX4 yX4_addSpare cX4_addSpare 5 none 1 := ⟨⟨gt_4 (gt_of (List.mem_of_getElem? (i := 752) (by decide +kernel)) rfl) (gt_of (List.mem_of_getElem? (i := 754) (by decide +kernel)) rfl) (gt_of (List.mem_of_getElem? (i := 19) (by decide +kernel)) rfl) (gt_of (List.mem_of_getElem? (i := 119) (by decide +kernel)) rfl), gt_of (List.mem_of_getElem? (i := 755) (by decide +kernel)) rfl⟩, by decide +kernel, by decide⟩
theorem cw_RX4_85 : CwV RX4 85 RX8 yX8_diskIn cX8_diskIn 6 (some .int) 4 := ⟨⟨gt_4 (gt_of (List.mem_of_getElem? (i := 722) (by decide +kernel)) rfl) (gt_of (List.mem_of_getElem? (i := 723) (by decide +kernel)) rfl) (gt_of (List.mem_of_getElem? (i := 724) (by decide +kernel)) rfl) (gt_of (List.mem_of_getElem? (i := 116) (by decide +kernel)) rfl), gt_of (List.mem_of_getElem? (i := 725) (by decide +kernel)) rfl⟩, by decide +kernel, by decide⟩
theorem cw_RX4_93 : CwV RX4 93 RX3 yX3_parityOf cX3_parityOf 6 (some .int) 4 := ⟨⟨gt_4 (gt_of (List.mem_of_getElem? (i := 726) (by decide +kernel)) rfl) (gt_of (List.mem_of_getElem? (i := 727) (by decide +kernel)) rfl) (gt_of (List.mem_of_getElem? (i := 728) (by decide +kernel)) rfl) (gt_of (List.mem_of_getElem? (i := 117) (by decide +kernel)) rfl), gt_of (List.mem_of_getElem? (i := 729) (by decide +kernel)) rfl⟩, by decide +kernel, by decide⟩
theorem cw_RX4_98 : CwV RX4 98 RX4 yX4_numberData cX4_numberData 4 none 1 := ⟨⟨gt_4 (gt_of (List.mem_of_getElem? (i := 748) (by decide +kernel)) rfl) (gt_of (List.mem_of_getElem? (i := 750) (by decide +kernel)) rfl) (gt_of (List.mem_of_getElem? (i := 18) (by decide +kernel)) rfl) (gt_of (List.mem_of_getElem? (i := 119) (by decide +kernel)) rfl), gt_of (List.mem_of_getElem? (i := 751) (by decide +kernel)) rfl⟩, by decide +kernel, by decide⟩
theorem cw_RX4_101 : CwV RX4 101 RX4 yX4_shared cX4_shared 6 (some .int) 2 := ⟨⟨gt_4 (gt_of (List.mem_of_getElem? (i := 980) (by decide +kernel)) rfl) (gt_of (List.mem_of_getElem? (i := 969) (by decide +kernel)) rfl) (gt_of (List.mem_of_getElem? (i := 970) (by decide +kernel)) rfl) (gt_of (List.mem_of_getElem? (i := 119) (by decide +kernel)) rfl), gt_of (List.mem_of_getElem? (i := 971) (by decide +kernel)) rfl⟩, by decide +kernel, by decide⟩
theorem cw_RX5_29 : CwV RX5 29 RX6 yX6_lostBits cX6_lostBits 4 (some .int) 1 := ⟨⟨gt_4 (gt_of (List.mem_of_getElem? (i := 1061) (by decide +kernel)) rfl) (gt_of (List.mem_of_getElem? (i := 802) (by decide +kernel)) rfl) (gt_of (List.mem_of_getElem? (i := 803) (by decide +kernel)) rfl) (gt_of (List.mem_of_getElem? (i := 120) (by decide +kernel)) rfl), gt_of (List.mem_of_getElem? (i := 804) (by decide +kernel)) rfl⟩, by decide +kernel, by decide⟩
theorem cw_RX5_35 : CwV RX5 35 RX6 yX6_disksNow cX6_disksNow 5 (some .int) 1 := ⟨⟨gt_4 (gt_of (List.mem_of_getElem? (i := 1062) (by decide +kernel)) rfl) (gt_of (List.mem_of_getElem? (i := 863) (by decide +kernel)) rfl) (gt_of (List.mem_of_getElem? (i := 864) (by decide +kernel)) rfl) (gt_of (List.mem_of_getElem? (i := 120) (by decide +kernel)) rfl), gt_of (List.mem_of_getElem? (i := 865) (by decide +kernel)) rfl⟩, by decide +kernel, by decide⟩
theorem cw_RX5_38 : CwV RX5 38 RX5 yX5_rebuiltIntoSpares cX5_rebuiltIntoSpares 7 (some .long) 1 := ⟨⟨gt_4 (gt_of (List.mem_of_getElem? (i := 1075) (by decide +kernel)) rfl) (gt_of (List.mem_of_getElem? (i := 1077) (by decide +kernel)) rfl) (gt_of (List.mem_of_getElem? (i := 31) (by decide +kernel)) rfl) (gt_of (List.mem_of_getElem? (i := 121) (by decide +kernel)) rfl), gt_of (List.mem_of_getElem? (i := 1078) (by decide +kernel)) rfl⟩, by decide +kernel, by decide⟩
theorem cw_RX5_42 : CwV RX5 42 RX5 yX5_afterTick cX5_afterTick 8 (some .long) 2 := ⟨⟨gt_4 (gt_of (List.mem_of_getElem? (i := 1081) (by decide +kernel)) rfl) (gt_of (List.mem_of_getElem? (i := 1083) (by decide +kernel)) rfl) (gt_of (List.mem_of_getElem? (i := 32) (by decide +kernel)) rfl) (gt_of (List.mem_of_getElem? (i := 121) (by decide +kernel)) rfl), gt_of (List.mem_of_getElem? (i := 1084) (by decide +kernel)) rfl⟩, by decide +kernel, by decide⟩
theorem cw_RX5_46 : CwV RX5 46 RX6 yX6_awayUnit cX6_awayUnit 3 (some .int) 1 := ⟨⟨gt_4 (gt_of (List.mem_of_getElem? (i := 1079) (by decide +kernel)) rfl) (gt_of (List.mem_of_getElem? (i := 806) (by decide +kernel)) rfl) (gt_of (List.mem_of_getElem? (i := 807) (by decide +kernel)) rfl) (gt_of (List.mem_of_getElem? (i := 120) (by decide +kernel)) rfl), gt_of (List.mem_of_getElem? (i := 808) (by decide +kernel)) rfl⟩, by decide +kernel, by decide⟩
theorem cw_RX5_52 : CwV RX5 52 RX6 yX6_isUp cX6_isUp 2 (some .boolean) 1 := ⟨⟨gt_4 (gt_of (List.mem_of_getElem? (i := 1080) (by decide +kernel)) rfl) (gt_of (List.mem_of_getElem? (i := 855) (by decide +kernel)) rfl) (gt_of (List.mem_of_getElem? (i := 856) (by decide +kernel)) rfl) (gt_of (List.mem_of_getElem? (i := 120) (by decide +kernel)) rfl), gt_of (List.mem_of_getElem? (i := 857) (by decide +kernel)) rfl⟩, by decide +kernel, by decide⟩
theorem cw_RX5_59 : CwV RX5 59 RX5 yX5_canTake cX5_canTake 3 (some .boolean) 1 := ⟨⟨gt_4 (gt_of (List.mem_of_getElem? (i := 1085) (by decide +kernel)) rfl) (gt_of (List.mem_of_getElem? (i := 1087) (by decide +kernel)) rfl) (gt_of (List.mem_of_getElem? (i := 33) (by decide +kernel)) rfl) (gt_of (List.mem_of_getElem? (i := 121) (by decide +kernel)) rfl), gt_of (List.mem_of_getElem? (i := 1088) (by decide +kernel)) rfl⟩, by decide +kernel, by decide⟩
theorem cw_RX5_62 : CwV RX5 62 RX5 yX5_take cX5_take 3 none 1 := ⟨⟨gt_4 (gt_of (List.mem_of_getElem? (i := 1089) (by decide +kernel)) rfl) (gt_of (List.mem_of_getElem? (i := 1091) (by decide +kernel)) rfl) (gt_of (List.mem_of_getElem? (i := 34) (by decide +kernel)) rfl) (gt_of (List.mem_of_getElem? (i := 121) (by decide +kernel)) rfl), gt_of (List.mem_of_getElem? (i := 1092) (by decide +kernel)) rfl⟩, by decide +kernel, by decide⟩
theorem cw_RX5_68 : CwV RX5 68 RX6 yX6_lostMany cX6_lostMany 2 (some .int) 1 := ⟨⟨gt_4 (gt_of (List.mem_of_getElem? (i := 1102) (by decide +kernel)) rfl) (gt_of (List.mem_of_getElem? (i := 1103) (by decide +kernel)) rfl) (gt_of (List.mem_of_getElem? (i := 1104) (by decide +kernel)) rfl) (gt_of (List.mem_of_getElem? (i := 120) (by decide +kernel)) rfl), gt_of (List.mem_of_getElem? (i := 1105) (by decide +kernel)) rfl⟩, by decide +kernel, by decide⟩
theorem cw_RX5_79 : CwV RX5 79 RX5 yX5_kills cX5_kills 4 (some .boolean) 1 := ⟨⟨gt_4 (gt_of (List.mem_of_getElem? (i := 1116) (by decide +kernel)) rfl) (gt_of (List.mem_of_getElem? (i := 1099) (by decide +kernel)) rfl) (gt_of (List.mem_of_getElem? (i := 1100) (by decide +kernel)) rfl) (gt_of (List.mem_of_getElem? (i := 121) (by decide +kernel)) rfl), gt_of (List.mem_of_getElem? (i := 1101) (by decide +kernel)) rfl⟩, by decide +kernel, by decide⟩
theorem cw_RX5_88 : CwV RX5 88 RX6 yX6_diskNow cX6_diskNow 2 (some .int) 1 := ⟨⟨gt_4 (gt_of (List.mem_of_getElem? (i := 1154) (by decide +kernel)) rfl) (gt_of (List.mem_of_getElem? (i := 831) (by decide +kernel)) rfl) (gt_of (List.mem_of_getElem? (i := 832) (by decide +kernel)) rfl) (gt_of (List.mem_of_getElem? (i := 120) (by decide +kernel)) rfl), gt_of (List.mem_of_getElem? (i := 833) (by decide +kernel)) rfl⟩, by decide +kernel, by decide⟩
theorem cw_RX5_94 : CwV RX5 94 RX5 yX5_fitsSeen cX5_fitsSeen 4 (some .boolean) 1 := ⟨⟨gt_4 (gt_of (List.mem_of_getElem? (i := 1146) (by decide +kernel)) rfl) (gt_of (List.mem_of_getElem? (i := 1148) (by decide +kernel)) rfl) (gt_of (List.mem_of_getElem? (i := 35) (by decide +kernel)) rfl) (gt_of (List.mem_of_getElem? (i := 121) (by decide +kernel)) rfl), gt_of (List.mem_of_getElem? (i := 1149) (by decide +kernel)) rfl⟩, by decide +kernel, by decide⟩
theorem cw_RX5_106 : CwV RX5 106 RX5 yX5_dearerWithout cX5_dearerWithout 7 (some .boolean) 2 := ⟨⟨gt_4 (gt_of (List.mem_of_getElem? (i := 1150) (by decide +kernel)) rfl) (gt_of (List.mem_of_getElem? (i := 1152) (by decide +kernel)) rfl) (gt_of (List.mem_of_getElem? (i := 36) (by decide +kernel)) rfl) (gt_of (List.mem_of_getElem? (i := 121) (by decide +kernel)) rfl), gt_of (List.mem_of_getElem? (i := 1153) (by decide +kernel)) rfl⟩, by decide +kernel, by decide⟩
theorem cw_RX5_110 : CwV RX5 110 RX5 yX5_suspects cX5_suspects 3 (some .int) 0 := ⟨⟨gt_4 (gt_of (List.mem_of_getElem? (i := 1163) (by decide +kernel)) rfl) (gt_of (List.mem_of_getElem? (i := 1143) (by decide +kernel)) rfl) (gt_of (List.mem_of_getElem? (i := 1144) (by decide +kernel)) rfl) (gt_of (List.mem_of_getElem? (i := 121) (by decide +kernel)) rfl), gt_of (List.mem_of_getElem? (i := 1145) (by decide +kernel)) rfl⟩, by decide +kernel, by decide⟩
theorem cw_RX5_117 : CwV RX5 117 RX5 yX5_leftBy cX5_leftBy 5 (some .int) 2 := ⟨⟨gt_4 (gt_of (List.mem_of_getElem? (i := 1164) (by decide +kernel)) rfl) (gt_of (List.mem_of_getElem? (i := 1166) (by decide +kernel)) rfl) (gt_of (List.mem_of_getElem? (i := 37) (by decide +kernel)) rfl) (gt_of (List.mem_of_getElem? (i := 121) (by decide +kernel)) rfl), gt_of (List.mem_of_getElem? (i := 1167) (by decide +kernel)) rfl⟩, by decide +kernel, by decide⟩
theorem cw_RX6_64 : CwV RX6 64 RX6 yX6_lostBits cX6_lostBits 4 (some .int) 1 := ⟨⟨gt_4 (gt_of (List.mem_of_getElem? (i := 817) (by decide +kernel)) rfl) (gt_of (List.mem_of_getElem? (i := 802) (by decide +kernel)) rfl) (gt_of (List.mem_of_getElem? (i := 803) (by decide +kernel)) rfl) (gt_of (List.mem_of_getElem? (i := 120) (by decide +kernel)) rfl), gt_of (List.mem_of_getElem? (i := 804) (by decide +kernel)) rfl⟩, by decide +kernel, by decide⟩
theorem cw_RX6_73 : CwV RX6 73 RX6 yX6_diskNow cX6_diskNow 2 (some .int) 1 := ⟨⟨gt_4 (gt_of (List.mem_of_getElem? (i := 866) (by decide +kernel)) rfl) (gt_of (List.mem_of_getElem? (i := 831) (by decide +kernel)) rfl) (gt_of (List.mem_of_getElem? (i := 832) (by decide +kernel)) rfl) (gt_of (List.mem_of_getElem? (i := 120) (by decide +kernel)) rfl), gt_of (List.mem_of_getElem? (i := 833) (by decide +kernel)) rfl⟩, by decide +kernel, by decide⟩
theorem cw_RX6_79 : CwV RX6 79 RX6 yX6_disksNow cX6_disksNow 5 (some .int) 1 := ⟨⟨gt_4 (gt_of (List.mem_of_getElem? (i := 862) (by decide +kernel)) rfl) (gt_of (List.mem_of_getElem? (i := 863) (by decide +kernel)) rfl) (gt_of (List.mem_of_getElem? (i := 864) (by decide +kernel)) rfl) (gt_of (List.mem_of_getElem? (i := 120) (by decide +kernel)) rfl), gt_of (List.mem_of_getElem? (i := 865) (by decide +kernel)) rfl⟩, by decide +kernel, by decide⟩
theorem cw_RX6_85 : CwV RX6 85 RX6 yX6_isDead cX6_isDead 3 (some .boolean) 1 := ⟨⟨gt_4 (gt_of (List.mem_of_getElem? (i := 879) (by decide +kernel)) rfl) (gt_of (List.mem_of_getElem? (i := 814) (by decide +kernel)) rfl) (gt_of (List.mem_of_getElem? (i := 815) (by decide +kernel)) rfl) (gt_of (List.mem_of_getElem? (i := 120) (by decide +kernel)) rfl), gt_of (List.mem_of_getElem? (i := 816) (by decide +kernel)) rfl⟩, by decide +kernel, by decide⟩
theorem cw_RX6_89 : CwV RX6 89 RX6 yX6_load cX6_load 4 none 2 := ⟨⟨gt_4 (gt_of (List.mem_of_getElem? (i := 884) (by decide +kernel)) rfl) (gt_of (List.mem_of_getElem? (i := 886) (by decide +kernel)) rfl) (gt_of (List.mem_of_getElem? (i := 27) (by decide +kernel)) rfl) (gt_of (List.mem_of_getElem? (i := 120) (by decide +kernel)) rfl), gt_of (List.mem_of_getElem? (i := 887) (by decide +kernel)) rfl⟩, by decide +kernel, by decide⟩
theorem cw_RX6_96 : CwV RX6 96 RX6 yX6_costOf cX6_costOf 2 (some .int) 1 := ⟨⟨gt_4 (gt_of (List.mem_of_getElem? (i := 875) (by decide +kernel)) rfl) (gt_of (List.mem_of_getElem? (i := 876) (by decide +kernel)) rfl) (gt_of (List.mem_of_getElem? (i := 877) (by decide +kernel)) rfl) (gt_of (List.mem_of_getElem? (i := 120) (by decide +kernel)) rfl), gt_of (List.mem_of_getElem? (i := 878) (by decide +kernel)) rfl⟩, by decide +kernel, by decide⟩
theorem cw_RX6_99 : CwV RX6 99 RX6 yX6_loadThere cX6_loadThere 3 none 1 := ⟨⟨gt_4 (gt_of (List.mem_of_getElem? (i := 880) (by decide +kernel)) rfl) (gt_of (List.mem_of_getElem? (i := 882) (by decide +kernel)) rfl) (gt_of (List.mem_of_getElem? (i := 26) (by decide +kernel)) rfl) (gt_of (List.mem_of_getElem? (i := 120) (by decide +kernel)) rfl), gt_of (List.mem_of_getElem? (i := 883) (by decide +kernel)) rfl⟩, by decide +kernel, by decide⟩
theorem cw_RX6_103 : CwV RX6 103 RX6 yX6_priceOf cX6_priceOf 3 (some .int) 1 := ⟨⟨gt_4 (gt_of (List.mem_of_getElem? (i := 896) (by decide +kernel)) rfl) (gt_of (List.mem_of_getElem? (i := 897) (by decide +kernel)) rfl) (gt_of (List.mem_of_getElem? (i := 898) (by decide +kernel)) rfl) (gt_of (List.mem_of_getElem? (i := 120) (by decide +kernel)) rfl), gt_of (List.mem_of_getElem? (i := 899) (by decide +kernel)) rfl⟩, by decide +kernel, by decide⟩
theorem cw_RX6_106 : CwV RX6 106 RX6 yX6_isUp cX6_isUp 2 (some .boolean) 1 := ⟨⟨gt_4 (gt_of (List.mem_of_getElem? (i := 908) (by decide +kernel)) rfl) (gt_of (List.mem_of_getElem? (i := 855) (by decide +kernel)) rfl) (gt_of (List.mem_of_getElem? (i := 856) (by decide +kernel)) rfl) (gt_of (List.mem_of_getElem? (i := 120) (by decide +kernel)) rfl), gt_of (List.mem_of_getElem? (i := 857) (by decide +kernel)) rfl⟩, by decide +kernel, by decide⟩
theorem cw_RX6_109 : CwV RX6 109 RX6 yX6_onlyLost cX6_onlyLost 4 (some .int) 1 := ⟨⟨gt_4 (gt_of (List.mem_of_getElem? (i := 925) (by decide +kernel)) rfl) (gt_of (List.mem_of_getElem? (i := 927) (by decide +kernel)) rfl) (gt_of (List.mem_of_getElem? (i := 28) (by decide +kernel)) rfl) (gt_of (List.mem_of_getElem? (i := 120) (by decide +kernel)) rfl), gt_of (List.mem_of_getElem? (i := 928) (by decide +kernel)) rfl⟩, by decide +kernel, by decide⟩
theorem cw_RX6_112 : CwV RX6 112 RX6 yX6_rebuiltTo cX6_rebuiltTo 3 (some .int) 1 := ⟨⟨gt_4 (gt_of (List.mem_of_getElem? (i := 929) (by decide +kernel)) rfl) (gt_of (List.mem_of_getElem? (i := 931) (by decide +kernel)) rfl) (gt_of (List.mem_of_getElem? (i := 29) (by decide +kernel)) rfl) (gt_of (List.mem_of_getElem? (i := 120) (by decide +kernel)) rfl), gt_of (List.mem_of_getElem? (i := 932) (by decide +kernel)) rfl⟩, by decide +kernel, by decide⟩
theorem cw_RX6_115 : CwV RX6 115 RX6 yX6_awayUnit cX6_awayUnit 3 (some .int) 1 := ⟨⟨gt_4 (gt_of (List.mem_of_getElem? (i := 933) (by decide +kernel)) rfl) (gt_of (List.mem_of_getElem? (i := 806) (by decide +kernel)) rfl) (gt_of (List.mem_of_getElem? (i := 807) (by decide +kernel)) rfl) (gt_of (List.mem_of_getElem? (i := 120) (by decide +kernel)) rfl), gt_of (List.mem_of_getElem? (i := 808) (by decide +kernel)) rfl⟩, by decide +kernel, by decide⟩
theorem cw_RX6_118 : CwV RX6 118 RX6 yX6_readDatum cX6_readDatum 3 (some .boolean) 1 := ⟨⟨gt_4 (gt_of (List.mem_of_getElem? (i := 950) (by decide +kernel)) rfl) (gt_of (List.mem_of_getElem? (i := 872) (by decide +kernel)) rfl) (gt_of (List.mem_of_getElem? (i := 873) (by decide +kernel)) rfl) (gt_of (List.mem_of_getElem? (i := 120) (by decide +kernel)) rfl), gt_of (List.mem_of_getElem? (i := 874) (by decide +kernel)) rfl⟩, by decide +kernel, by decide⟩
theorem cw_RX6_121 : CwV RX6 121 RX6 yX6_writeDatum cX6_writeDatum 7 (some .int) 2 := ⟨⟨gt_4 (gt_of (List.mem_of_getElem? (i := 951) (by decide +kernel)) rfl) (gt_of (List.mem_of_getElem? (i := 893) (by decide +kernel)) rfl) (gt_of (List.mem_of_getElem? (i := 894) (by decide +kernel)) rfl) (gt_of (List.mem_of_getElem? (i := 120) (by decide +kernel)) rfl), gt_of (List.mem_of_getElem? (i := 895) (by decide +kernel)) rfl⟩, by decide +kernel, by decide⟩
theorem cw_RX6_125 : CwV RX6 125 RX6 yX6_loseDisk cX6_loseDisk 5 (some .int) 1 := ⟨⟨gt_4 (gt_of (List.mem_of_getElem? (i := 952) (by decide +kernel)) rfl) (gt_of (List.mem_of_getElem? (i := 905) (by decide +kernel)) rfl) (gt_of (List.mem_of_getElem? (i := 906) (by decide +kernel)) rfl) (gt_of (List.mem_of_getElem? (i := 120) (by decide +kernel)) rfl), gt_of (List.mem_of_getElem? (i := 907) (by decide +kernel)) rfl⟩, by decide +kernel, by decide⟩
theorem cw_RX6_128 : CwV RX6 128 RX6 yX6_replaceDisk cX6_replaceDisk 2 (some .boolean) 1 := ⟨⟨gt_4 (gt_of (List.mem_of_getElem? (i := 953) (by decide +kernel)) rfl) (gt_of (List.mem_of_getElem? (i := 914) (by decide +kernel)) rfl) (gt_of (List.mem_of_getElem? (i := 915) (by decide +kernel)) rfl) (gt_of (List.mem_of_getElem? (i := 120) (by decide +kernel)) rfl), gt_of (List.mem_of_getElem? (i := 916) (by decide +kernel)) rfl⟩, by decide +kernel, by decide⟩
theorem cw_RX6_131 : CwV RX6 131 RX6 yX6_rebuildUnits cX6_rebuildUnits 6 (some .int) 1 := ⟨⟨gt_4 (gt_of (List.mem_of_getElem? (i := 954) (by decide +kernel)) rfl) (gt_of (List.mem_of_getElem? (i := 922) (by decide +kernel)) rfl) (gt_of (List.mem_of_getElem? (i := 923) (by decide +kernel)) rfl) (gt_of (List.mem_of_getElem? (i := 120) (by decide +kernel)) rfl), gt_of (List.mem_of_getElem? (i := 924) (by decide +kernel)) rfl⟩, by decide +kernel, by decide⟩
theorem cw_RX6_134 : CwV RX6 134 RX6 yX6_bringHome cX6_bringHome 6 (some .int) 1 := ⟨⟨gt_4 (gt_of (List.mem_of_getElem? (i := 955) (by decide +kernel)) rfl) (gt_of (List.mem_of_getElem? (i := 939) (by decide +kernel)) rfl) (gt_of (List.mem_of_getElem? (i := 940) (by decide +kernel)) rfl) (gt_of (List.mem_of_getElem? (i := 120) (by decide +kernel)) rfl), gt_of (List.mem_of_getElem? (i := 941) (by decide +kernel)) rfl⟩, by decide +kernel, by decide⟩
theorem cw_RX7_25 : CwV RX7 25 RX7 yX7_advance cX7_advance 2 none 0 := ⟨⟨gt_4 (gt_of (List.mem_of_getElem? (i := 490) (by decide +kernel)) rfl) (gt_of (List.mem_of_getElem? (i := 491) (by decide +kernel)) rfl) (gt_of (List.mem_of_getElem? (i := 492) (by decide +kernel)) rfl) (gt_of (List.mem_of_getElem? (i := 114) (by decide +kernel)) rfl), gt_of (List.mem_of_getElem? (i := 493) (by decide +kernel)) rfl⟩, by decide +kernel, by decide⟩
theorem cw_RX7_37 : CwV RX7 37 RX7 yX7_endOfRun cX7_endOfRun 4 (some .int) 2 := ⟨⟨gt_4 (gt_of (List.mem_of_getElem? (i := 494) (by decide +kernel)) rfl) (gt_of (List.mem_of_getElem? (i := 496) (by decide +kernel)) rfl) (gt_of (List.mem_of_getElem? (i := 0) (by decide +kernel)) rfl) (gt_of (List.mem_of_getElem? (i := 114) (by decide +kernel)) rfl), gt_of (List.mem_of_getElem? (i := 497) (by decide +kernel)) rfl⟩, by decide +kernel, by decide⟩
theorem cw_RX7_41 : CwV RX7 41 RX7 yX7_readNumber cX7_readNumber 2 none 0 := ⟨⟨gt_4 (gt_of (List.mem_of_getElem? (i := 498) (by decide +kernel)) rfl) (gt_of (List.mem_of_getElem? (i := 500) (by decide +kernel)) rfl) (gt_of (List.mem_of_getElem? (i := 1) (by decide +kernel)) rfl) (gt_of (List.mem_of_getElem? (i := 114) (by decide +kernel)) rfl), gt_of (List.mem_of_getElem? (i := 501) (by decide +kernel)) rfl⟩, by decide +kernel, by decide⟩
theorem cw_RX7_46 : CwV RX7 46 RJ0 yJ0_indexOf_0f7a4 cJ0_indexOf_0f7a4 2 (some .int) 1 := ⟨⟨gt_4 (gt_of (List.mem_of_getElem? (i := 503) (by decide +kernel)) rfl) (gt_of (List.mem_of_getElem? (i := 504) (by decide +kernel)) rfl) (gt_of (List.mem_of_getElem? (i := 505) (by decide +kernel)) rfl) (gt_of (List.mem_of_getElem? (i := 123) (by decide +kernel)) rfl), gt_of (List.mem_of_getElem? (i := 506) (by decide +kernel)) rfl⟩, by decide +kernel, by decide⟩
theorem cw_RX7_52 : CwV RX7 52 RJ0 yJ0_length_8abf5 cJ0_length_8abf5 1 (some .int) 0 := ⟨⟨gt_4 (gt_of (List.mem_of_getElem? (i := 594) (by decide +kernel)) rfl) (gt_of (List.mem_of_getElem? (i := 518) (by decide +kernel)) rfl) (gt_of (List.mem_of_getElem? (i := 519) (by decide +kernel)) rfl) (gt_of (List.mem_of_getElem? (i := 123) (by decide +kernel)) rfl), gt_of (List.mem_of_getElem? (i := 520) (by decide +kernel)) rfl⟩, by decide +kernel, by decide⟩
theorem cw_RX7_55 : CwV RX7 55 RJ0 yJ0_charAt_5068e cJ0_charAt_5068e 2 (some .char) 1 := ⟨⟨gt_4 (gt_of (List.mem_of_getElem? (i := 595) (by decide +kernel)) rfl) (gt_of (List.mem_of_getElem? (i := 596) (by decide +kernel)) rfl) (gt_of (List.mem_of_getElem? (i := 597) (by decide +kernel)) rfl) (gt_of (List.mem_of_getElem? (i := 123) (by decide +kernel)) rfl), gt_of (List.mem_of_getElem? (i := 598) (by decide +kernel)) rfl⟩, by decide +kernel, by decide⟩
theorem cw_RX7_59 : CwV RX7 59 RX7 yX7_isSign cX7_isSign 2 (some .boolean) 1 := ⟨⟨gt_4 (gt_of (List.mem_of_getElem? (i := 633) (by decide +kernel)) rfl) (gt_of (List.mem_of_getElem? (i := 634) (by decide +kernel)) rfl) (gt_of (List.mem_of_getElem? (i := 635) (by decide +kernel)) rfl) (gt_of (List.mem_of_getElem? (i := 114) (by decide +kernel)) rfl), gt_of (List.mem_of_getElem? (i := 636) (by decide +kernel)) rfl⟩, by decide +kernel, by decide⟩
theorem cw_RX7_63 : CwV RX7 63 RX7 yX7_fail cX7_fail 2 none 1 := ⟨⟨gt_4 (gt_of (List.mem_of_getElem? (i := 628) (by decide +kernel)) rfl) (gt_of (List.mem_of_getElem? (i := 620) (by decide +kernel)) rfl) (gt_of (List.mem_of_getElem? (i := 621) (by decide +kernel)) rfl) (gt_of (List.mem_of_getElem? (i := 114) (by decide +kernel)) rfl), gt_of (List.mem_of_getElem? (i := 622) (by decide +kernel)) rfl⟩, by decide +kernel, by decide⟩
theorem cw_RX8_41 : CwV RX8 41 RX8 yX8_stripesOf cX8_stripesOf 3 (some .int) 2 := ⟨⟨gt_4 (gt_of (List.mem_of_getElem? (i := 667) (by decide +kernel)) rfl) (gt_of (List.mem_of_getElem? (i := 668) (by decide +kernel)) rfl) (gt_of (List.mem_of_getElem? (i := 669) (by decide +kernel)) rfl) (gt_of (List.mem_of_getElem? (i := 116) (by decide +kernel)) rfl), gt_of (List.mem_of_getElem? (i := 670) (by decide +kernel)) rfl⟩, by decide +kernel, by decide⟩
theorem cw_RX9_29 : CwV RX9 29 RX7 yX7_rewind cX7_rewind 1 none 0 := ⟨⟨gt_4 (gt_of (List.mem_of_getElem? (i := 769) (by decide +kernel)) rfl) (gt_of (List.mem_of_getElem? (i := 487) (by decide +kernel)) rfl) (gt_of (List.mem_of_getElem? (i := 488) (by decide +kernel)) rfl) (gt_of (List.mem_of_getElem? (i := 114) (by decide +kernel)) rfl), gt_of (List.mem_of_getElem? (i := 489) (by decide +kernel)) rfl⟩, by decide +kernel, by decide⟩
theorem cw_RX9_40 : CwV RX9 40 RX9 yX9_verbInHand cX9_verbInHand 1 (some .int) 0 := ⟨⟨gt_4 (gt_of (List.mem_of_getElem? (i := 770) (by decide +kernel)) rfl) (gt_of (List.mem_of_getElem? (i := 772) (by decide +kernel)) rfl) (gt_of (List.mem_of_getElem? (i := 20) (by decide +kernel)) rfl) (gt_of (List.mem_of_getElem? (i := 118) (by decide +kernel)) rfl), gt_of (List.mem_of_getElem? (i := 773) (by decide +kernel)) rfl⟩, by decide +kernel, by decide⟩
theorem cw_RX9_44 : CwV RX9 44 RX7 yX7_fail cX7_fail 2 none 1 := ⟨⟨gt_4 (gt_of (List.mem_of_getElem? (i := 781) (by decide +kernel)) rfl) (gt_of (List.mem_of_getElem? (i := 620) (by decide +kernel)) rfl) (gt_of (List.mem_of_getElem? (i := 621) (by decide +kernel)) rfl) (gt_of (List.mem_of_getElem? (i := 114) (by decide +kernel)) rfl), gt_of (List.mem_of_getElem? (i := 622) (by decide +kernel)) rfl⟩, by decide +kernel, by decide⟩
theorem cw_RX9_48 : CwV RX9 48 RX9 yX9_addLine cX9_addLine 4 none 3 := ⟨⟨gt_4 (gt_of (List.mem_of_getElem? (i := 782) (by decide +kernel)) rfl) (gt_of (List.mem_of_getElem? (i := 784) (by decide +kernel)) rfl) (gt_of (List.mem_of_getElem? (i := 21) (by decide +kernel)) rfl) (gt_of (List.mem_of_getElem? (i := 118) (by decide +kernel)) rfl), gt_of (List.mem_of_getElem? (i := 785) (by decide +kernel)) rfl⟩, by decide +kernel, by decide⟩
theorem cw_RX9_52 : CwV RX9 52 RX7 yX7_advance cX7_advance 2 none 0 := ⟨⟨gt_4 (gt_of (List.mem_of_getElem? (i := 786) (by decide +kernel)) rfl) (gt_of (List.mem_of_getElem? (i := 491) (by decide +kernel)) rfl) (gt_of (List.mem_of_getElem? (i := 492) (by decide +kernel)) rfl) (gt_of (List.mem_of_getElem? (i := 114) (by decide +kernel)) rfl), gt_of (List.mem_of_getElem? (i := 493) (by decide +kernel)) rfl⟩, by decide +kernel, by decide⟩
theorem cw_RX9_55 : CwV RX9 55 RX9 yX9_objectOf cX9_objectOf 4 (some .int) 3 := ⟨⟨gt_4 (gt_of (List.mem_of_getElem? (i := 787) (by decide +kernel)) rfl) (gt_of (List.mem_of_getElem? (i := 789) (by decide +kernel)) rfl) (gt_of (List.mem_of_getElem? (i := 22) (by decide +kernel)) rfl) (gt_of (List.mem_of_getElem? (i := 118) (by decide +kernel)) rfl), gt_of (List.mem_of_getElem? (i := 790) (by decide +kernel)) rfl⟩, by decide +kernel, by decide⟩
theorem cw_RX9_59 : CwV RX9 59 RX7 yX7_numberWithin cX7_numberWithin 4 (some .int) 2 := ⟨⟨gt_4 (gt_of (List.mem_of_getElem? (i := 791) (by decide +kernel)) rfl) (gt_of (List.mem_of_getElem? (i := 625) (by decide +kernel)) rfl) (gt_of (List.mem_of_getElem? (i := 626) (by decide +kernel)) rfl) (gt_of (List.mem_of_getElem? (i := 114) (by decide +kernel)) rfl), gt_of (List.mem_of_getElem? (i := 627) (by decide +kernel)) rfl⟩, by decide +kernel, by decide⟩
theorem cw_RX9_63 : CwV RX9 63 RX7 yX7_pass cX7_pass 2 none 1 := ⟨⟨gt_4 (gt_of (List.mem_of_getElem? (i := 792) (by decide +kernel)) rfl) (gt_of (List.mem_of_getElem? (i := 630) (by decide +kernel)) rfl) (gt_of (List.mem_of_getElem? (i := 631) (by decide +kernel)) rfl) (gt_of (List.mem_of_getElem? (i := 114) (by decide +kernel)) rfl), gt_of (List.mem_of_getElem? (i := 632) (by decide +kernel)) rfl⟩, by decide +kernel, by decide⟩
theorem cw_RX9_69 : CwV RX9 69 RX7 yX7_isWord cX7_isWord 3 (some .boolean) 1 := ⟨⟨gt_4 (gt_of (List.mem_of_getElem? (i := 775) (by decide +kernel)) rfl) (gt_of (List.mem_of_getElem? (i := 591) (by decide +kernel)) rfl) (gt_of (List.mem_of_getElem? (i := 592) (by decide +kernel)) rfl) (gt_of (List.mem_of_getElem? (i := 114) (by decide +kernel)) rfl), gt_of (List.mem_of_getElem? (i := 593) (by decide +kernel)) rfl⟩, by decide +kernel, by decide⟩
theorem k_RJ6_265 : Cond.constant RJ6 265 (1431655765) ∈ gt := gt_of (List.mem_of_getElem? (i := 1010) (by decide +kernel)) rfl
theorem k_RJ6_266 : Cond.constant RJ6 266 (858993459) ∈ gt := gt_of (List.mem_of_getElem? (i := 1011) (by decide +kernel)) rfl
theorem k_RJ6_267 : Cond.constant RJ6 267 (252645135) ∈ gt := gt_of (List.mem_of_getElem? (i := 1012) (by decide +kernel)) rfl
theorem k_RX11_501 : Cond.constant RX11 501 (99999) ∈ gt := gt_of (List.mem_of_getElem? (i := 1944) (by decide +kernel)) rfl
theorem k_RX11_156 : Cond.constantLong RX11 156 (255) ∈ gt := gt_of (List.mem_of_getElem? (i := 1487) (by decide +kernel)) rfl
theorem k_RX11_184 : Cond.constantLong RX11 184 (27) ∈ gt := gt_of (List.mem_of_getElem? (i := 1508) (by decide +kernel)) rfl
theorem k_RX11_186 : Cond.constantLong RX11 186 (96) ∈ gt := gt_of (List.mem_of_getElem? (i := 1509) (by decide +kernel)) rfl
theorem k_RX11_194 : Cond.constantLong RX11 194 (283619345) ∈ gt := gt_of (List.mem_of_getElem? (i := 1570) (by decide +kernel)) rfl
theorem k_RX11_196 : Cond.constantLong RX11 196 (381245) ∈ gt := gt_of (List.mem_of_getElem? (i := 1571) (by decide +kernel)) rfl
theorem k_RX11_198 : Cond.constantLong RX11 198 (3379448) ∈ gt := gt_of (List.mem_of_getElem? (i := 1572) (by decide +kernel)) rfl
theorem k_RX11_200 : Cond.constantLong RX11 200 (12387257) ∈ gt := gt_of (List.mem_of_getElem? (i := 1573) (by decide +kernel)) rfl
theorem k_RX11_206 : Cond.constantLong RX11 206 (10631) ∈ gt := gt_of (List.mem_of_getElem? (i := 1574) (by decide +kernel)) rfl
theorem k_RX11_226 : Cond.constantLong RX11 226 (1111) ∈ gt := gt_of (List.mem_of_getElem? (i := 1579) (by decide +kernel)) rfl
theorem k_RX11_228 : Cond.constantLong RX11 228 (423) ∈ gt := gt_of (List.mem_of_getElem? (i := 1580) (by decide +kernel)) rfl
theorem k_RX11_265 : Cond.constantLong RX11 265 (305537) ∈ gt := gt_of (List.mem_of_getElem? (i := 1543) (by decide +kernel)) rfl
theorem k_RX11_267 : Cond.constantLong RX11 267 (2088914) ∈ gt := gt_of (List.mem_of_getElem? (i := 1544) (by decide +kernel)) rfl
theorem k_RX11_269 : Cond.constantLong RX11 269 (191686599) ∈ gt := gt_of (List.mem_of_getElem? (i := 1545) (by decide +kernel)) rfl
theorem k_RX11_271 : Cond.constantLong RX11 271 (11088176) ∈ gt := gt_of (List.mem_of_getElem? (i := 1546) (by decide +kernel)) rfl
theorem k_RX11_282 : Cond.constantLong RX11 282 (2317078) ∈ gt := gt_of (List.mem_of_getElem? (i := 1510) (by decide +kernel)) rfl
theorem k_RX11_287 : Cond.constantLong RX11 287 (1310105) ∈ gt := gt_of (List.mem_of_getElem? (i := 1538) (by decide +kernel)) rfl
theorem k_RX11_292 : Cond.constantLong RX11 292 (230475373) ∈ gt := gt_of (List.mem_of_getElem? (i := 1557) (by decide +kernel)) rfl
theorem k_RX11_297 : Cond.constantLong RX11 297 (10416091) ∈ gt := gt_of (List.mem_of_getElem? (i := 1581) (by decide +kernel)) rfl
theorem k_RX11_327 : Cond.constantLong RX11 327 (357970) ∈ gt := gt_of (List.mem_of_getElem? (i := 1641) (by decide +kernel)) rfl
theorem k_RX11_329 : Cond.constantLong RX11 329 (12584543) ∈ gt := gt_of (List.mem_of_getElem? (i := 1642) (by decide +kernel)) rfl
theorem k_RX11_331 : Cond.constantLong RX11 331 (247649) ∈ gt := gt_of (List.mem_of_getElem? (i := 1643) (by decide +kernel)) rfl
theorem k_RX11_333 : Cond.constantLong RX11 333 (7054053404) ∈ gt := gt_of (List.mem_of_getElem? (i := 1644) (by decide +kernel)) rfl
theorem k_RX11_335 : Cond.constantLong RX11 335 (7046796451) ∈ gt := gt_of (List.mem_of_getElem? (i := 1645) (by decide +kernel)) rfl
theorem k_RX11_337 : Cond.constantLong RX11 337 (168755) ∈ gt := gt_of (List.mem_of_getElem? (i := 1646) (by decide +kernel)) rfl
theorem k_RX11_487 : Cond.constantLong RX11 487 (1103515245) ∈ gt := gt_of (List.mem_of_getElem? (i := 1940) (by decide +kernel)) rfl
theorem k_RX11_489 : Cond.constantLong RX11 489 (12345) ∈ gt := gt_of (List.mem_of_getElem? (i := 1941) (by decide +kernel)) rfl
theorem k_RX11_491 : Cond.constantLong RX11 491 (2147483648) ∈ gt := gt_of (List.mem_of_getElem? (i := 1942) (by decide +kernel)) rfl
theorem k_RX11_493 : Cond.constantLong RX11 493 (65536) ∈ gt := gt_of (List.mem_of_getElem? (i := 1943) (by decide +kernel)) rfl
theorem k_RX2_13 : Cond.constantLong RX2 13 (1103515245) ∈ gt := gt_of (List.mem_of_getElem? (i := 1198) (by decide +kernel)) rfl
theorem k_RX2_15 : Cond.constantLong RX2 15 (12345) ∈ gt := gt_of (List.mem_of_getElem? (i := 1199) (by decide +kernel)) rfl
theorem k_RX2_17 : Cond.constantLong RX2 17 (2147483648) ∈ gt := gt_of (List.mem_of_getElem? (i := 1200) (by decide +kernel)) rfl
theorem k_RX2_19 : Cond.constantLong RX2 19 (65536) ∈ gt := gt_of (List.mem_of_getElem? (i := 1201) (by decide +kernel)) rfl
theorem k_RX5_66 : Cond.constantLong RX5 66 (-1) ∈ gt := gt_of (List.mem_of_getElem? (i := 1093) (by decide +kernel)) rfl
theorem ft_RJ0_9 : FT RJ0 9 "value" "[B" := gt_of (List.mem_of_getElem? (i := 1979) (by decide +kernel)) rfl
theorem ft_RJ0_15 : FT RJ0 15 "coder" "B" := gt_of (List.mem_of_getElem? (i := 1978) (by decide +kernel)) rfl
theorem ft_RJ0_38 : FT RJ0 38 "COMPACT_STRINGS" "Z" := gt_of (List.mem_of_getElem? (i := 515) (by decide +kernel)) rfl
theorem cm_RJ1_38 : CwM RJ1 38 Lib.Math.min.name Lib.Math.min.code := gt_all (by decide +kernel) (by decide +kernel)
theorem cm_RJ1_92 : CwM RJ1 92 Lib.Math.max.name Lib.Math.max.code := gt_all (by decide +kernel) (by decide +kernel)
theorem cm_RX1_34 : CwM RX1 34 Lib.Math.max.name Lib.Math.max.code := gt_all (by decide +kernel) (by decide +kernel)
theorem cm_RX10_340 : CwM RX10 340 Lib.Math.max.name Lib.Math.max.code := gt_all (by decide +kernel) (by decide +kernel)
theorem cm_RX10_345 : CwM RX10 345 Lib.Math.min.name Lib.Math.min.code := gt_all (by decide +kernel) (by decide +kernel)
theorem cm_RX11_434 : CwM RX11 434 Lib.Math.max.name Lib.Math.max.code := gt_all (by decide +kernel) (by decide +kernel)
theorem cm_RX11_439 : CwM RX11 439 Lib.Math.min.name Lib.Math.min.code := gt_all (by decide +kernel) (by decide +kernel)
theorem cm_RX4_104 : CwM RX4 104 Lib.Math.max.name Lib.Math.max.code := gt_all (by decide +kernel) (by decide +kernel)
theorem cm_RX4_109 : CwM RX4 109 Lib.Math.min.name Lib.Math.min.code := gt_all (by decide +kernel) (by decide +kernel)
theorem cm_RX5_121 : CwM RX5 121 Lib.Math.max.name Lib.Math.max.code := gt_all (by decide +kernel) (by decide +kernel)
theorem cm_RX6_43 : CwA RX6 43 := gt_all (by decide +kernel) (by decide +kernel)
theorem ft_RJ0_1053 : Cond.fieldLink RJ0 1053 "jdk/internal/util/Preconditions" "SIOOBE_FORMATTER" "Ljava/util/function/BiFunction;" ∈ gt := gt_of (List.mem_of_getElem? (i := 558) (by decide +kernel)) rfl
