theorem ic_m8 : Int32.ofInt (-8) = -8 := by decide
theorem ic_m1 : Int32.ofInt (-1) = -1 := by decide
theorem ic_0 : Int32.ofInt (0) = 0 := by decide
theorem ic_1 : Int32.ofInt (1) = 1 := by decide
theorem ic_2 : Int32.ofInt (2) = 2 := by decide
theorem ic_3 : Int32.ofInt (3) = 3 := by decide
theorem ic_4 : Int32.ofInt (4) = 4 := by decide
theorem ic_5 : Int32.ofInt (5) = 5 := by decide
theorem lay_0 : lay 0 = (9, 13) := by decide +kernel
theorem lo_0 : (lay 0).1 = 9 := by decide +kernel
theorem ltc_0 : 0 < 126 := by decide
theorem lay_1 : lay 1 = (6, 7) := by decide +kernel
theorem lo_1 : (lay 1).1 = 6 := by decide +kernel
theorem ltc_1 : 1 < 126 := by decide
theorem lay_2 : lay 2 = (11, 1000) := by decide +kernel
theorem lo_2 : (lay 2).1 = 11 := by decide +kernel
theorem ltc_2 : 2 < 126 := by decide
theorem lay_3 : lay 3 = (7, 7) := by decide +kernel
theorem lo_3 : (lay 3).1 = 7 := by decide +kernel
theorem ltc_3 : 3 < 126 := by decide
theorem lay_4 : lay 4 = (12, 6) := by decide +kernel
theorem lo_4 : (lay 4).1 = 12 := by decide +kernel
theorem ltc_4 : 4 < 126 := by decide
theorem lay_5 : lay 5 = (12, 6) := by decide +kernel
theorem lo_5 : (lay 5).1 = 12 := by decide +kernel
theorem ltc_5 : 5 < 126 := by decide
theorem lay_6 : lay 6 = (12, 30) := by decide +kernel
theorem lo_6 : (lay 6).1 = 12 := by decide +kernel
theorem ltc_6 : 6 < 126 := by decide
theorem lay_7 : lay 7 = (2, 4) := by decide +kernel
theorem lo_7 : (lay 7).1 = 2 := by decide +kernel
theorem ltc_7 : 7 < 126 := by decide
theorem lay_8 : lay 8 = (12, 1000) := by decide +kernel
theorem lo_8 : (lay 8).1 = 12 := by decide +kernel
theorem ltc_8 : 8 < 126 := by decide
theorem lay_9 : lay 9 = (12, 24) := by decide +kernel
theorem lo_9 : (lay 9).1 = 12 := by decide +kernel
theorem ltc_9 : 9 < 126 := by decide
theorem lay_10 : lay 10 = (7, 7) := by decide +kernel
theorem lo_10 : (lay 10).1 = 7 := by decide +kernel
theorem ltc_10 : 10 < 126 := by decide
theorem lay_11 : lay 11 = (12, 6) := by decide +kernel
theorem lo_11 : (lay 11).1 = 12 := by decide +kernel
theorem ltc_11 : 11 < 126 := by decide
theorem lay_12 : lay 12 = (12, 6) := by decide +kernel
theorem lo_12 : (lay 12).1 = 12 := by decide +kernel
theorem ltc_12 : 12 < 126 := by decide
theorem lay_13 : lay 13 = (12, 30) := by decide +kernel
theorem lo_13 : (lay 13).1 = 12 := by decide +kernel
theorem ltc_13 : 13 < 126 := by decide
theorem lay_14 : lay 14 = (2, 4) := by decide +kernel
theorem lo_14 : (lay 14).1 = 2 := by decide +kernel
theorem ltc_14 : 14 < 126 := by decide
theorem lay_15 : lay 15 = (12, 1000) := by decide +kernel
theorem lo_15 : (lay 15).1 = 12 := by decide +kernel
theorem ltc_15 : 15 < 126 := by decide
theorem lay_16 : lay 16 = (12, 24) := by decide +kernel
theorem lo_16 : (lay 16).1 = 12 := by decide +kernel
theorem ltc_16 : 16 < 126 := by decide
theorem lay_17 : lay 17 = (0, 2) := by decide +kernel
theorem lo_17 : (lay 17).1 = 0 := by decide +kernel
theorem ltc_17 : 17 < 126 := by decide
theorem lay_18 : lay 18 = (8, 5) := by decide +kernel
theorem lo_18 : (lay 18).1 = 8 := by decide +kernel
theorem ltc_18 : 18 < 126 := by decide
theorem lay_19 : lay 19 = (12, 40) := by decide +kernel
theorem lo_19 : (lay 19).1 = 12 := by decide +kernel
theorem ltc_19 : 19 < 126 := by decide
theorem lay_20 : lay 20 = (12, 40) := by decide +kernel
theorem lo_20 : (lay 20).1 = 12 := by decide +kernel
theorem ltc_20 : 20 < 126 := by decide
theorem lay_21 : lay 21 = (12, 40) := by decide +kernel
theorem lo_21 : (lay 21).1 = 12 := by decide +kernel
theorem ltc_21 : 21 < 126 := by decide
theorem lay_22 : lay 22 = (8, 5) := by decide +kernel
theorem lo_22 : (lay 22).1 = 8 := by decide +kernel
theorem ltc_22 : 22 < 126 := by decide
theorem lay_23 : lay 23 = (12, 40) := by decide +kernel
theorem lo_23 : (lay 23).1 = 12 := by decide +kernel
theorem ltc_23 : 23 < 126 := by decide
theorem lay_24 : lay 24 = (12, 40) := by decide +kernel
theorem lo_24 : (lay 24).1 = 12 := by decide +kernel
theorem ltc_24 : 24 < 126 := by decide
theorem lay_25 : lay 25 = (12, 40) := by decide +kernel
theorem lo_25 : (lay 25).1 = 12 := by decide +kernel
theorem ltc_25 : 25 < 126 := by decide
theorem lay_26 : lay 26 = (3, 16) := by decide +kernel
theorem lo_26 : (lay 26).1 = 3 := by decide +kernel
theorem ltc_26 : 26 < 126 := by decide
theorem lay_27 : lay 27 = (12, 40) := by decide +kernel
theorem lo_27 : (lay 27).1 = 12 := by decide +kernel
theorem ltc_27 : 27 < 126 := by decide
theorem lay_28 : lay 28 = (12, 40) := by decide +kernel
theorem lo_28 : (lay 28).1 = 12 := by decide +kernel
theorem ltc_28 : 28 < 126 := by decide
theorem lay_29 : lay 29 = (12, 40) := by decide +kernel
theorem lo_29 : (lay 29).1 = 12 := by decide +kernel
theorem ltc_29 : 29 < 126 := by decide
theorem lay_30 : lay 30 = (12, 40) := by decide +kernel
theorem lo_30 : (lay 30).1 = 12 := by decide +kernel
theorem ltc_30 : 30 < 126 := by decide
theorem lay_31 : lay 31 = (12, 40) := by decide +kernel
theorem lo_31 : (lay 31).1 = 12 := by decide +kernel
theorem ltc_31 : 31 < 126 := by decide
theorem lay_32 : lay 32 = (12, 40) := by decide +kernel
theorem lo_32 : (lay 32).1 = 12 := by decide +kernel
theorem ltc_32 : 32 < 126 := by decide
theorem lay_33 : lay 33 = (12, 200) := by decide +kernel
theorem lo_33 : (lay 33).1 = 12 := by decide +kernel
theorem ltc_33 : 33 < 126 := by decide
theorem lay_34 : lay 34 = (12, 200) := by decide +kernel
theorem lo_34 : (lay 34).1 = 12 := by decide +kernel
theorem ltc_34 : 34 < 126 := by decide
theorem lay_35 : lay 35 = (12, 200) := by decide +kernel
theorem lo_35 : (lay 35).1 = 12 := by decide +kernel
theorem ltc_35 : 35 < 126 := by decide
theorem lay_36 : lay 36 = (12, 160) := by decide +kernel
theorem lo_36 : (lay 36).1 = 12 := by decide +kernel
theorem ltc_36 : 36 < 126 := by decide
theorem lay_37 : lay 37 = (12, 13) := by decide +kernel
theorem lo_37 : (lay 37).1 = 12 := by decide +kernel
theorem ltc_37 : 37 < 126 := by decide
theorem lay_38 : lay 38 = (12, 13) := by decide +kernel
theorem lo_38 : (lay 38).1 = 12 := by decide +kernel
theorem ltc_38 : 38 < 126 := by decide
theorem lay_39 : lay 39 = (12, 13) := by decide +kernel
theorem lo_39 : (lay 39).1 = 12 := by decide +kernel
theorem ltc_39 : 39 < 126 := by decide
theorem lay_40 : lay 40 = (3, 16) := by decide +kernel
theorem lo_40 : (lay 40).1 = 3 := by decide +kernel
theorem ltc_40 : 40 < 126 := by decide
theorem lay_41 : lay 41 = (12, 40) := by decide +kernel
theorem lo_41 : (lay 41).1 = 12 := by decide +kernel
theorem ltc_41 : 41 < 126 := by decide
theorem lay_42 : lay 42 = (12, 40) := by decide +kernel
theorem lo_42 : (lay 42).1 = 12 := by decide +kernel
theorem ltc_42 : 42 < 126 := by decide
theorem lay_43 : lay 43 = (12, 40) := by decide +kernel
theorem lo_43 : (lay 43).1 = 12 := by decide +kernel
theorem ltc_43 : 43 < 126 := by decide
theorem lay_44 : lay 44 = (12, 40) := by decide +kernel
theorem lo_44 : (lay 44).1 = 12 := by decide +kernel
theorem ltc_44 : 44 < 126 := by decide
theorem lay_45 : lay 45 = (12, 40) := by decide +kernel
theorem lo_45 : (lay 45).1 = 12 := by decide +kernel
theorem ltc_45 : 45 < 126 := by decide
theorem lay_46 : lay 46 = (12, 40) := by decide +kernel
theorem lo_46 : (lay 46).1 = 12 := by decide +kernel
theorem ltc_46 : 46 < 126 := by decide
theorem lay_47 : lay 47 = (12, 200) := by decide +kernel
theorem lo_47 : (lay 47).1 = 12 := by decide +kernel
theorem ltc_47 : 47 < 126 := by decide
theorem lay_48 : lay 48 = (12, 200) := by decide +kernel
theorem lo_48 : (lay 48).1 = 12 := by decide +kernel
theorem ltc_48 : 48 < 126 := by decide
theorem lay_49 : lay 49 = (12, 200) := by decide +kernel
theorem lo_49 : (lay 49).1 = 12 := by decide +kernel
theorem ltc_49 : 49 < 126 := by decide
theorem lay_50 : lay 50 = (12, 160) := by decide +kernel
theorem lo_50 : (lay 50).1 = 12 := by decide +kernel
theorem ltc_50 : 50 < 126 := by decide
theorem lay_51 : lay 51 = (12, 13) := by decide +kernel
theorem lo_51 : (lay 51).1 = 12 := by decide +kernel
theorem ltc_51 : 51 < 126 := by decide
theorem lay_52 : lay 52 = (12, 13) := by decide +kernel
theorem lo_52 : (lay 52).1 = 12 := by decide +kernel
theorem ltc_52 : 52 < 126 := by decide
theorem lay_53 : lay 53 = (12, 13) := by decide +kernel
theorem lo_53 : (lay 53).1 = 12 := by decide +kernel
theorem ltc_53 : 53 < 126 := by decide
theorem lay_54 : lay 54 = (5, 8) := by decide +kernel
theorem lo_54 : (lay 54).1 = 5 := by decide +kernel
theorem ltc_54 : 54 < 126 := by decide
theorem lay_55 : lay 55 = (12, 200) := by decide +kernel
theorem lo_55 : (lay 55).1 = 12 := by decide +kernel
theorem ltc_55 : 55 < 126 := by decide
theorem lay_56 : lay 56 = (12, 200) := by decide +kernel
theorem lo_56 : (lay 56).1 = 12 := by decide +kernel
theorem ltc_56 : 56 < 126 := by decide
theorem lay_57 : lay 57 = (12, 13) := by decide +kernel
theorem lo_57 : (lay 57).1 = 12 := by decide +kernel
theorem ltc_57 : 57 < 126 := by decide
theorem lay_58 : lay 58 = (12, 8) := by decide +kernel
theorem lo_58 : (lay 58).1 = 12 := by decide +kernel
theorem ltc_58 : 58 < 126 := by decide
theorem lay_59 : lay 59 = (5, 8) := by decide +kernel
theorem lo_59 : (lay 59).1 = 5 := by decide +kernel
theorem ltc_59 : 59 < 126 := by decide
theorem lay_60 : lay 60 = (12, 200) := by decide +kernel
theorem lo_60 : (lay 60).1 = 12 := by decide +kernel
theorem ltc_60 : 60 < 126 := by decide
theorem lay_61 : lay 61 = (12, 200) := by decide +kernel
theorem lo_61 : (lay 61).1 = 12 := by decide +kernel
theorem ltc_61 : 61 < 126 := by decide
theorem lay_62 : lay 62 = (12, 13) := by decide +kernel
theorem lo_62 : (lay 62).1 = 12 := by decide +kernel
theorem ltc_62 : 62 < 126 := by decide
theorem lay_63 : lay 63 = (12, 8) := by decide +kernel
theorem lo_63 : (lay 63).1 = 12 := by decide +kernel
theorem ltc_63 : 63 < 126 := by decide
theorem lay_64 : lay 64 = (14, 2) := by decide +kernel
theorem lo_64 : (lay 64).1 = 14 := by decide +kernel
theorem ltc_64 : 64 < 126 := by decide
theorem lay_65 : lay 65 = (5, 8) := by decide +kernel
theorem lo_65 : (lay 65).1 = 5 := by decide +kernel
theorem ltc_65 : 65 < 126 := by decide
theorem lay_66 : lay 66 = (12, 200) := by decide +kernel
theorem lo_66 : (lay 66).1 = 12 := by decide +kernel
theorem ltc_66 : 66 < 126 := by decide
theorem lay_67 : lay 67 = (12, 200) := by decide +kernel
theorem lo_67 : (lay 67).1 = 12 := by decide +kernel
theorem ltc_67 : 67 < 126 := by decide
theorem lay_68 : lay 68 = (12, 13) := by decide +kernel
theorem lo_68 : (lay 68).1 = 12 := by decide +kernel
theorem ltc_68 : 68 < 126 := by decide
theorem lay_69 : lay 69 = (12, 8) := by decide +kernel
theorem lo_69 : (lay 69).1 = 12 := by decide +kernel
theorem ltc_69 : 69 < 126 := by decide
theorem lay_70 : lay 70 = (5, 8) := by decide +kernel
theorem lo_70 : (lay 70).1 = 5 := by decide +kernel
theorem ltc_70 : 70 < 126 := by decide
theorem lay_71 : lay 71 = (12, 200) := by decide +kernel
theorem lo_71 : (lay 71).1 = 12 := by decide +kernel
theorem ltc_71 : 71 < 126 := by decide
theorem lay_72 : lay 72 = (12, 200) := by decide +kernel
theorem lo_72 : (lay 72).1 = 12 := by decide +kernel
theorem ltc_72 : 72 < 126 := by decide
theorem lay_73 : lay 73 = (12, 13) := by decide +kernel
theorem lo_73 : (lay 73).1 = 12 := by decide +kernel
theorem ltc_73 : 73 < 126 := by decide
theorem lay_74 : lay 74 = (12, 8) := by decide +kernel
theorem lo_74 : (lay 74).1 = 12 := by decide +kernel
theorem ltc_74 : 74 < 126 := by decide
theorem lay_75 : lay 75 = (13, 2) := by decide +kernel
theorem lo_75 : (lay 75).1 = 13 := by decide +kernel
theorem ltc_75 : 75 < 126 := by decide
theorem lay_76 : lay 76 = (4, 3) := by decide +kernel
theorem lo_76 : (lay 76).1 = 4 := by decide +kernel
theorem ltc_76 : 76 < 126 := by decide
theorem lay_77 : lay 77 = (12, 13) := by decide +kernel
theorem lo_77 : (lay 77).1 = 12 := by decide +kernel
theorem ltc_77 : 77 < 126 := by decide
theorem lay_78 : lay 78 = (10, 59) := by decide +kernel
theorem lo_78 : (lay 78).1 = 10 := by decide +kernel
theorem ltc_78 : 78 < 126 := by decide
theorem lay_79 : lay 79 = (12, 1000) := by decide +kernel
theorem lo_79 : (lay 79).1 = 12 := by decide +kernel
theorem ltc_79 : 79 < 126 := by decide
theorem lay_80 : lay 80 = (12, 6) := by decide +kernel
theorem lo_80 : (lay 80).1 = 12 := by decide +kernel
theorem ltc_80 : 80 < 126 := by decide
theorem lay_81 : lay 81 = (12, 12) := by decide +kernel
theorem lo_81 : (lay 81).1 = 12 := by decide +kernel
theorem ltc_81 : 81 < 126 := by decide
theorem lay_82 : lay 82 = (12, 12) := by decide +kernel
theorem lo_82 : (lay 82).1 = 12 := by decide +kernel
theorem ltc_82 : 82 < 126 := by decide
theorem lay_83 : lay 83 = (12, 60) := by decide +kernel
theorem lo_83 : (lay 83).1 = 12 := by decide +kernel
theorem ltc_83 : 83 < 126 := by decide
theorem lay_84 : lay 84 = (12, 2) := by decide +kernel
theorem lo_84 : (lay 84).1 = 12 := by decide +kernel
theorem ltc_84 : 84 < 126 := by decide
theorem lay_85 : lay 85 = (12, 2) := by decide +kernel
theorem lo_85 : (lay 85).1 = 12 := by decide +kernel
theorem ltc_85 : 85 < 126 := by decide
theorem lay_86 : lay 86 = (12, 2000) := by decide +kernel
theorem lo_86 : (lay 86).1 = 12 := by decide +kernel
theorem ltc_86 : 86 < 126 := by decide
theorem lay_87 : lay 87 = (12, 7) := by decide +kernel
theorem lo_87 : (lay 87).1 = 12 := by decide +kernel
theorem ltc_87 : 87 < 126 := by decide
theorem lay_88 : lay 88 = (13, 7) := by decide +kernel
theorem lo_88 : (lay 88).1 = 13 := by decide +kernel
theorem ltc_88 : 88 < 126 := by decide
theorem lay_89 : lay 89 = (12, 7) := by decide +kernel
theorem lo_89 : (lay 89).1 = 12 := by decide +kernel
theorem ltc_89 : 89 < 126 := by decide
theorem lay_90 : lay 90 = (12, 7) := by decide +kernel
theorem lo_90 : (lay 90).1 = 12 := by decide +kernel
theorem ltc_90 : 90 < 126 := by decide
theorem lay_91 : lay 91 = (12, 7) := by decide +kernel
theorem lo_91 : (lay 91).1 = 12 := by decide +kernel
theorem ltc_91 : 91 < 126 := by decide
theorem lay_92 : lay 92 = (12, 7) := by decide +kernel
theorem lo_92 : (lay 92).1 = 12 := by decide +kernel
theorem ltc_92 : 92 < 126 := by decide
theorem lay_93 : lay 93 = (12, 7) := by decide +kernel
theorem lo_93 : (lay 93).1 = 12 := by decide +kernel
theorem ltc_93 : 93 < 126 := by decide
theorem lay_94 : lay 94 = (12, 7) := by decide +kernel
theorem lo_94 : (lay 94).1 = 12 := by decide +kernel
theorem ltc_94 : 94 < 126 := by decide
theorem lay_95 : lay 95 = (12, 7) := by decide +kernel
theorem lo_95 : (lay 95).1 = 12 := by decide +kernel
theorem ltc_95 : 95 < 126 := by decide
theorem lay_96 : lay 96 = (12, 7) := by decide +kernel
theorem lo_96 : (lay 96).1 = 12 := by decide +kernel
theorem ltc_96 : 96 < 126 := by decide
theorem lay_97 : lay 97 = (12, 7) := by decide +kernel
theorem lo_97 : (lay 97).1 = 12 := by decide +kernel
theorem ltc_97 : 97 < 126 := by decide
theorem lay_98 : lay 98 = (12, 20) := by decide +kernel
theorem lo_98 : (lay 98).1 = 12 := by decide +kernel
theorem ltc_98 : 98 < 126 := by decide
theorem lay_99 : lay 99 = (12, 2) := by decide +kernel
theorem lo_99 : (lay 99).1 = 12 := by decide +kernel
theorem ltc_99 : 99 < 126 := by decide
theorem lay_100 : lay 100 = (12, 80) := by decide +kernel
theorem lo_100 : (lay 100).1 = 12 := by decide +kernel
theorem ltc_100 : 100 < 126 := by decide
theorem lay_101 : lay 101 = (12, 80) := by decide +kernel
theorem lo_101 : (lay 101).1 = 12 := by decide +kernel
theorem ltc_101 : 101 < 126 := by decide
theorem lay_102 : lay 102 = (12, 80) := by decide +kernel
theorem lo_102 : (lay 102).1 = 12 := by decide +kernel
theorem ltc_102 : 102 < 126 := by decide
theorem lay_103 : lay 103 = (12, 80) := by decide +kernel
theorem lo_103 : (lay 103).1 = 12 := by decide +kernel
theorem ltc_103 : 103 < 126 := by decide
theorem lay_104 : lay 104 = (12, 80) := by decide +kernel
theorem lo_104 : (lay 104).1 = 12 := by decide +kernel
theorem ltc_104 : 104 < 126 := by decide
theorem lay_105 : lay 105 = (12, 400) := by decide +kernel
theorem lo_105 : (lay 105).1 = 12 := by decide +kernel
theorem ltc_105 : 105 < 126 := by decide
theorem lay_106 : lay 106 = (12, 400) := by decide +kernel
theorem lo_106 : (lay 106).1 = 12 := by decide +kernel
theorem ltc_106 : 106 < 126 := by decide
theorem lay_107 : lay 107 = (12, 320) := by decide +kernel
theorem lo_107 : (lay 107).1 = 12 := by decide +kernel
theorem ltc_107 : 107 < 126 := by decide
theorem lay_108 : lay 108 = (12, 2) := by decide +kernel
theorem lo_108 : (lay 108).1 = 12 := by decide +kernel
theorem ltc_108 : 108 < 126 := by decide
theorem lay_109 : lay 109 = (12, 400) := by decide +kernel
theorem lo_109 : (lay 109).1 = 12 := by decide +kernel
theorem ltc_109 : 109 < 126 := by decide
theorem lay_110 : lay 110 = (12, 4) := by decide +kernel
theorem lo_110 : (lay 110).1 = 12 := by decide +kernel
theorem ltc_110 : 110 < 126 := by decide
theorem lay_111 : lay 111 = (12, 160) := by decide +kernel
theorem lo_111 : (lay 111).1 = 12 := by decide +kernel
theorem ltc_111 : 111 < 126 := by decide
theorem lay_112 : lay 112 = (12, 160) := by decide +kernel
theorem lo_112 : (lay 112).1 = 12 := by decide +kernel
theorem ltc_112 : 112 < 126 := by decide
theorem lay_113 : lay 113 = (12, 160) := by decide +kernel
theorem lo_113 : (lay 113).1 = 12 := by decide +kernel
theorem ltc_113 : 113 < 126 := by decide
theorem lay_114 : lay 114 = (12, 3) := by decide +kernel
theorem lo_114 : (lay 114).1 = 12 := by decide +kernel
theorem ltc_114 : 114 < 126 := by decide
theorem lay_115 : lay 115 = (12, 24) := by decide +kernel
theorem lo_115 : (lay 115).1 = 12 := by decide +kernel
theorem ltc_115 : 115 < 126 := by decide
theorem lay_116 : lay 116 = (13, 24) := by decide +kernel
theorem lo_116 : (lay 116).1 = 13 := by decide +kernel
theorem ltc_116 : 116 < 126 := by decide
theorem lay_117 : lay 117 = (12, 374) := by decide +kernel
theorem lo_117 : (lay 117).1 = 12 := by decide +kernel
theorem ltc_117 : 117 < 126 := by decide
theorem lay_118 : lay 118 = (12, 374) := by decide +kernel
theorem lo_118 : (lay 118).1 = 12 := by decide +kernel
theorem ltc_118 : 118 < 126 := by decide
theorem lay_119 : lay 119 = (12, 374) := by decide +kernel
theorem lo_119 : (lay 119).1 = 12 := by decide +kernel
theorem ltc_119 : 119 < 126 := by decide
theorem lay_120 : lay 120 = (12, 748) := by decide +kernel
theorem lo_120 : (lay 120).1 = 12 := by decide +kernel
theorem ltc_120 : 120 < 126 := by decide
theorem lay_121 : lay 121 = (13, 2) := by decide +kernel
theorem lo_121 : (lay 121).1 = 13 := by decide +kernel
theorem ltc_121 : 121 < 126 := by decide
theorem lay_122 : lay 122 = (13, 40) := by decide +kernel
theorem lo_122 : (lay 122).1 = 13 := by decide +kernel
theorem ltc_122 : 122 < 126 := by decide
theorem lay_123 : lay 123 = (12, 13) := by decide +kernel
theorem lo_123 : (lay 123).1 = 12 := by decide +kernel
theorem ltc_123 : 123 < 126 := by decide
theorem lay_124 : lay 124 = (13, 2080) := by decide +kernel
theorem lo_124 : (lay 124).1 = 13 := by decide +kernel
theorem ltc_124 : 124 < 126 := by decide
theorem lay_125 : lay 125 = (15, 1) := by decide +kernel
theorem lo_125 : (lay 125).1 = 15 := by decide +kernel
theorem ltc_125 : 125 < 126 := by decide
theorem lay_126 : lay 126 = (1, 1) := by decide +kernel
theorem lo_126 : (lay 126).1 = 1 := by decide +kernel
theorem rt_0_0 (t u w v : Nat) (x : Option Nat) : RT t u w v x 0 0 = some 1 := rfl
theorem rt_0_1 (t u w v : Nat) (x : Option Nat) : RT t u w v x 0 1 = some t := rfl
theorem rt_0_2 (t u w v : Nat) (x : Option Nat) : RT t u w v x 0 2 = some u := rfl
theorem rt_0_3 (t u w v : Nat) (x : Option Nat) : RT t u w v x 0 3 = some 17 := rfl
theorem rt_0_4 (t u w v : Nat) (x : Option Nat) : RT t u w v x 0 4 = some w := rfl
theorem rt_0_5 (t u w v : Nat) (x : Option Nat) : RT t u w v x 0 5 = some v := rfl
theorem rt_0_6 (t u w v : Nat) (x : Option Nat) : RT t u w v x 0 6 = some 26 := rfl
theorem rt_0_7 (t u w v : Nat) (x : Option Nat) : RT t u w v x 0 7 = some 40 := rfl
theorem rt_0_8 (t u w v : Nat) (x : Option Nat) : RT t u w v x 0 8 = some 54 := rfl
theorem rt_0_9 (t u w v : Nat) (x : Option Nat) : RT t u w v x 0 9 = some 59 := rfl
theorem rt_0_10 (t u w v : Nat) (x : Option Nat) : RT t u w v x 0 10 = some 64 := rfl
theorem rt_0_11 (t u w v : Nat) (x : Option Nat) : RT t u w v x 0 11 = some 75 := rfl
theorem rt_0_12 (t u w v : Nat) (x : Option Nat) : RT t u w v x 0 12 = some 76 := rfl
theorem rt_1_0 (t u w v : Nat) (x : Option Nat) : RT t u w v x 1 0 = some 2 := rfl
theorem rt_17_0 (t u w v : Nat) (x : Option Nat) : RT t u w v x 17 0 = some 1 := rfl
theorem rt_17_1 (t u w v : Nat) (x : Option Nat) : RT t u w v x 17 1 = x := rfl
theorem rt_26_3 (t u w v : Nat) (x : Option Nat) : RT t u w v x 26 3 = some 27 := rfl
theorem rt_26_4 (t u w v : Nat) (x : Option Nat) : RT t u w v x 26 4 = some 28 := rfl
theorem rt_26_5 (t u w v : Nat) (x : Option Nat) : RT t u w v x 26 5 = some 29 := rfl
theorem rt_26_6 (t u w v : Nat) (x : Option Nat) : RT t u w v x 26 6 = some 30 := rfl
theorem rt_26_7 (t u w v : Nat) (x : Option Nat) : RT t u w v x 26 7 = some 31 := rfl
theorem rt_26_8 (t u w v : Nat) (x : Option Nat) : RT t u w v x 26 8 = some 32 := rfl
theorem rt_26_9 (t u w v : Nat) (x : Option Nat) : RT t u w v x 26 9 = some 33 := rfl
theorem rt_26_10 (t u w v : Nat) (x : Option Nat) : RT t u w v x 26 10 = some 34 := rfl
theorem rt_26_11 (t u w v : Nat) (x : Option Nat) : RT t u w v x 26 11 = some 35 := rfl
theorem rt_26_12 (t u w v : Nat) (x : Option Nat) : RT t u w v x 26 12 = some 36 := rfl
theorem rt_26_13 (t u w v : Nat) (x : Option Nat) : RT t u w v x 26 13 = some 37 := rfl
theorem rt_26_14 (t u w v : Nat) (x : Option Nat) : RT t u w v x 26 14 = some 38 := rfl
theorem rt_26_15 (t u w v : Nat) (x : Option Nat) : RT t u w v x 26 15 = some 39 := rfl
theorem rt_54_2 (t u w v : Nat) (x : Option Nat) : RT t u w v x 54 2 = some 55 := rfl
theorem rt_54_4 (t u w v : Nat) (x : Option Nat) : RT t u w v x 54 4 = some 57 := rfl
theorem rt_54_6 (t u w v : Nat) (x : Option Nat) : RT t u w v x 54 6 = some 58 := rfl
theorem rt_59_4 (t u w v : Nat) (x : Option Nat) : RT t u w v x 59 4 = some 62 := rfl
theorem rt_64_0 (t u w v : Nat) (x : Option Nat) : RT t u w v x 64 0 = some 65 := rfl
theorem rt_64_1 (t u w v : Nat) (x : Option Nat) : RT t u w v x 64 1 = some 70 := rfl
theorem rt_76_0 (t u w v : Nat) (x : Option Nat) : RT t u w v x 76 0 = some 54 := rfl
theorem rt_76_1 (t u w v : Nat) (x : Option Nat) : RT t u w v x 76 1 = some 26 := rfl
theorem rt_76_2 (t u w v : Nat) (x : Option Nat) : RT t u w v x 76 2 = some 77 := rfl
theorem rt_78_2 (t u w v : Nat) (x : Option Nat) : RT t u w v x 78 2 = some 79 := rfl
theorem rt_78_10 (t u w v : Nat) (x : Option Nat) : RT t u w v x 78 10 = some 80 := rfl
theorem rt_78_11 (t u w v : Nat) (x : Option Nat) : RT t u w v x 78 11 = some 81 := rfl
theorem rt_78_12 (t u w v : Nat) (x : Option Nat) : RT t u w v x 78 12 = some 82 := rfl
theorem rt_78_13 (t u w v : Nat) (x : Option Nat) : RT t u w v x 78 13 = some 83 := rfl
theorem rt_78_14 (t u w v : Nat) (x : Option Nat) : RT t u w v x 78 14 = some 84 := rfl
theorem rt_78_15 (t u w v : Nat) (x : Option Nat) : RT t u w v x 78 15 = some 85 := rfl
theorem rt_78_16 (t u w v : Nat) (x : Option Nat) : RT t u w v x 78 16 = some 86 := rfl
theorem rt_78_19 (t u w v : Nat) (x : Option Nat) : RT t u w v x 78 19 = some 87 := rfl
theorem rt_78_20 (t u w v : Nat) (x : Option Nat) : RT t u w v x 78 20 = some 88 := rfl
theorem rt_78_21 (t u w v : Nat) (x : Option Nat) : RT t u w v x 78 21 = some 89 := rfl
theorem rt_78_22 (t u w v : Nat) (x : Option Nat) : RT t u w v x 78 22 = some 90 := rfl
theorem rt_78_23 (t u w v : Nat) (x : Option Nat) : RT t u w v x 78 23 = some 91 := rfl
theorem rt_78_24 (t u w v : Nat) (x : Option Nat) : RT t u w v x 78 24 = some 92 := rfl
theorem rt_78_25 (t u w v : Nat) (x : Option Nat) : RT t u w v x 78 25 = some 93 := rfl
theorem rt_78_26 (t u w v : Nat) (x : Option Nat) : RT t u w v x 78 26 = some 94 := rfl
theorem rt_78_27 (t u w v : Nat) (x : Option Nat) : RT t u w v x 78 27 = some 95 := rfl
theorem rt_78_28 (t u w v : Nat) (x : Option Nat) : RT t u w v x 78 28 = some 96 := rfl
theorem rt_78_29 (t u w v : Nat) (x : Option Nat) : RT t u w v x 78 29 = some 97 := rfl
theorem rt_78_30 (t u w v : Nat) (x : Option Nat) : RT t u w v x 78 30 = some 98 := rfl
theorem rt_78_32 (t u w v : Nat) (x : Option Nat) : RT t u w v x 78 32 = some 99 := rfl
theorem rt_78_33 (t u w v : Nat) (x : Option Nat) : RT t u w v x 78 33 = some 100 := rfl
theorem rt_78_34 (t u w v : Nat) (x : Option Nat) : RT t u w v x 78 34 = some 101 := rfl
theorem rt_78_35 (t u w v : Nat) (x : Option Nat) : RT t u w v x 78 35 = some 102 := rfl
theorem rt_78_36 (t u w v : Nat) (x : Option Nat) : RT t u w v x 78 36 = some 103 := rfl
theorem rt_78_37 (t u w v : Nat) (x : Option Nat) : RT t u w v x 78 37 = some 104 := rfl
theorem rt_78_38 (t u w v : Nat) (x : Option Nat) : RT t u w v x 78 38 = some 105 := rfl
theorem rt_78_39 (t u w v : Nat) (x : Option Nat) : RT t u w v x 78 39 = some 106 := rfl
theorem rt_78_40 (t u w v : Nat) (x : Option Nat) : RT t u w v x 78 40 = some 107 := rfl
theorem rt_78_41 (t u w v : Nat) (x : Option Nat) : RT t u w v x 78 41 = some 108 := rfl
theorem rt_78_42 (t u w v : Nat) (x : Option Nat) : RT t u w v x 78 42 = some 109 := rfl
theorem rt_78_43 (t u w v : Nat) (x : Option Nat) : RT t u w v x 78 43 = some 110 := rfl
theorem rt_78_44 (t u w v : Nat) (x : Option Nat) : RT t u w v x 78 44 = some 111 := rfl
theorem rt_78_45 (t u w v : Nat) (x : Option Nat) : RT t u w v x 78 45 = some 112 := rfl
theorem rt_78_46 (t u w v : Nat) (x : Option Nat) : RT t u w v x 78 46 = some 113 := rfl
theorem rt_78_47 (t u w v : Nat) (x : Option Nat) : RT t u w v x 78 47 = some 114 := rfl
theorem rt_78_48 (t u w v : Nat) (x : Option Nat) : RT t u w v x 78 48 = some 115 := rfl
theorem rt_78_49 (t u w v : Nat) (x : Option Nat) : RT t u w v x 78 49 = some 116 := rfl
theorem rt_78_50 (t u w v : Nat) (x : Option Nat) : RT t u w v x 78 50 = some 117 := rfl
theorem rt_78_51 (t u w v : Nat) (x : Option Nat) : RT t u w v x 78 51 = some 118 := rfl
theorem rt_78_52 (t u w v : Nat) (x : Option Nat) : RT t u w v x 78 52 = some 119 := rfl
theorem rt_78_53 (t u w v : Nat) (x : Option Nat) : RT t u w v x 78 53 = some 120 := rfl
theorem rt_78_54 (t u w v : Nat) (x : Option Nat) : RT t u w v x 78 54 = some 121 := rfl
theorem rt_78_55 (t u w v : Nat) (x : Option Nat) : RT t u w v x 78 55 = some 122 := rfl
theorem rt_78_56 (t u w v : Nat) (x : Option Nat) : RT t u w v x 78 56 = some 123 := rfl
theorem rt_78_57 (t u w v : Nat) (x : Option Nat) : RT t u w v x 78 57 = some 124 := rfl
theorem lt_isLa_0 {a : Nat} (h : isLa a) : a < 126 := by rcases h with rfl | rfl <;> decide
theorem lay_isLa_0 {a : Nat} (h : isLa a) : lay (a) = (3, 16) := by rcases h with rfl | rfl <;> decide +kernel
theorem lo_isLa_0 {a : Nat} (h : isLa a) : (lay (a)).1 = 3 := by rcases h with rfl | rfl <;> decide +kernel
theorem rt_isLa_0_10 (t u w v : Nat) (x : Option Nat) {a : Nat} (h : isLa a) : RT t u w v x (a) 10 = some (a + 8) := by rcases h with rfl | rfl <;> rfl
theorem rt_isLa_0_11 (t u w v : Nat) (x : Option Nat) {a : Nat} (h : isLa a) : RT t u w v x (a) 11 = some (a + 9) := by rcases h with rfl | rfl <;> rfl
theorem rt_isLa_0_12 (t u w v : Nat) (x : Option Nat) {a : Nat} (h : isLa a) : RT t u w v x (a) 12 = some (a + 10) := by rcases h with rfl | rfl <;> rfl
theorem rt_isLa_0_13 (t u w v : Nat) (x : Option Nat) {a : Nat} (h : isLa a) : RT t u w v x (a) 13 = some (a + 11) := by rcases h with rfl | rfl <;> rfl
theorem rt_isLa_0_14 (t u w v : Nat) (x : Option Nat) {a : Nat} (h : isLa a) : RT t u w v x (a) 14 = some (a + 12) := by rcases h with rfl | rfl <;> rfl
theorem rt_isLa_0_15 (t u w v : Nat) (x : Option Nat) {a : Nat} (h : isLa a) : RT t u w v x (a) 15 = some (a + 13) := by rcases h with rfl | rfl <;> rfl
theorem rt_isLa_0_3 (t u w v : Nat) (x : Option Nat) {a : Nat} (h : isLa a) : RT t u w v x (a) 3 = some (a + 1) := by rcases h with rfl | rfl <;> rfl
theorem rt_isLa_0_4 (t u w v : Nat) (x : Option Nat) {a : Nat} (h : isLa a) : RT t u w v x (a) 4 = some (a + 2) := by rcases h with rfl | rfl <;> rfl
theorem rt_isLa_0_5 (t u w v : Nat) (x : Option Nat) {a : Nat} (h : isLa a) : RT t u w v x (a) 5 = some (a + 3) := by rcases h with rfl | rfl <;> rfl
theorem rt_isLa_0_6 (t u w v : Nat) (x : Option Nat) {a : Nat} (h : isLa a) : RT t u w v x (a) 6 = some (a + 4) := by rcases h with rfl | rfl <;> rfl
theorem rt_isLa_0_7 (t u w v : Nat) (x : Option Nat) {a : Nat} (h : isLa a) : RT t u w v x (a) 7 = some (a + 5) := by rcases h with rfl | rfl <;> rfl
theorem rt_isLa_0_8 (t u w v : Nat) (x : Option Nat) {a : Nat} (h : isLa a) : RT t u w v x (a) 8 = some (a + 6) := by rcases h with rfl | rfl <;> rfl
theorem rt_isLa_0_9 (t u w v : Nat) (x : Option Nat) {a : Nat} (h : isLa a) : RT t u w v x (a) 9 = some (a + 7) := by rcases h with rfl | rfl <;> rfl
theorem lt_isLa_1 {a : Nat} (h : isLa a) : a + 1 < 126 := by rcases h with rfl | rfl <;> decide
theorem lay_isLa_1 {a : Nat} (h : isLa a) : lay (a + 1) = (12, 40) := by rcases h with rfl | rfl <;> decide +kernel
theorem lo_isLa_1 {a : Nat} (h : isLa a) : (lay (a + 1)).1 = 12 := by rcases h with rfl | rfl <;> decide +kernel
theorem lt_isLa_10 {a : Nat} (h : isLa a) : a + 10 < 126 := by rcases h with rfl | rfl <;> decide
theorem lay_isLa_10 {a : Nat} (h : isLa a) : lay (a + 10) = (12, 160) := by rcases h with rfl | rfl <;> decide +kernel
theorem lo_isLa_10 {a : Nat} (h : isLa a) : (lay (a + 10)).1 = 12 := by rcases h with rfl | rfl <;> decide +kernel
theorem lt_isLa_11 {a : Nat} (h : isLa a) : a + 11 < 126 := by rcases h with rfl | rfl <;> decide
theorem lay_isLa_11 {a : Nat} (h : isLa a) : lay (a + 11) = (12, 13) := by rcases h with rfl | rfl <;> decide +kernel
theorem lo_isLa_11 {a : Nat} (h : isLa a) : (lay (a + 11)).1 = 12 := by rcases h with rfl | rfl <;> decide +kernel
theorem lt_isLa_12 {a : Nat} (h : isLa a) : a + 12 < 126 := by rcases h with rfl | rfl <;> decide
theorem lay_isLa_12 {a : Nat} (h : isLa a) : lay (a + 12) = (12, 13) := by rcases h with rfl | rfl <;> decide +kernel
theorem lo_isLa_12 {a : Nat} (h : isLa a) : (lay (a + 12)).1 = 12 := by rcases h with rfl | rfl <;> decide +kernel
theorem lt_isLa_13 {a : Nat} (h : isLa a) : a + 13 < 126 := by rcases h with rfl | rfl <;> decide
theorem lay_isLa_13 {a : Nat} (h : isLa a) : lay (a + 13) = (12, 13) := by rcases h with rfl | rfl <;> decide +kernel
theorem lo_isLa_13 {a : Nat} (h : isLa a) : (lay (a + 13)).1 = 12 := by rcases h with rfl | rfl <;> decide +kernel
theorem lt_isLa_2 {a : Nat} (h : isLa a) : a + 2 < 126 := by rcases h with rfl | rfl <;> decide
theorem lay_isLa_2 {a : Nat} (h : isLa a) : lay (a + 2) = (12, 40) := by rcases h with rfl | rfl <;> decide +kernel
theorem lo_isLa_2 {a : Nat} (h : isLa a) : (lay (a + 2)).1 = 12 := by rcases h with rfl | rfl <;> decide +kernel
theorem lt_isLa_3 {a : Nat} (h : isLa a) : a + 3 < 126 := by rcases h with rfl | rfl <;> decide
theorem lay_isLa_3 {a : Nat} (h : isLa a) : lay (a + 3) = (12, 40) := by rcases h with rfl | rfl <;> decide +kernel
theorem lo_isLa_3 {a : Nat} (h : isLa a) : (lay (a + 3)).1 = 12 := by rcases h with rfl | rfl <;> decide +kernel
theorem lt_isLa_4 {a : Nat} (h : isLa a) : a + 4 < 126 := by rcases h with rfl | rfl <;> decide
theorem lay_isLa_4 {a : Nat} (h : isLa a) : lay (a + 4) = (12, 40) := by rcases h with rfl | rfl <;> decide +kernel
theorem lo_isLa_4 {a : Nat} (h : isLa a) : (lay (a + 4)).1 = 12 := by rcases h with rfl | rfl <;> decide +kernel
theorem lt_isLa_5 {a : Nat} (h : isLa a) : a + 5 < 126 := by rcases h with rfl | rfl <;> decide
theorem lay_isLa_5 {a : Nat} (h : isLa a) : lay (a + 5) = (12, 40) := by rcases h with rfl | rfl <;> decide +kernel
theorem lo_isLa_5 {a : Nat} (h : isLa a) : (lay (a + 5)).1 = 12 := by rcases h with rfl | rfl <;> decide +kernel
theorem lt_isLa_6 {a : Nat} (h : isLa a) : a + 6 < 126 := by rcases h with rfl | rfl <;> decide
theorem lay_isLa_6 {a : Nat} (h : isLa a) : lay (a + 6) = (12, 40) := by rcases h with rfl | rfl <;> decide +kernel
theorem lo_isLa_6 {a : Nat} (h : isLa a) : (lay (a + 6)).1 = 12 := by rcases h with rfl | rfl <;> decide +kernel
theorem lt_isLa_7 {a : Nat} (h : isLa a) : a + 7 < 126 := by rcases h with rfl | rfl <;> decide
theorem lay_isLa_7 {a : Nat} (h : isLa a) : lay (a + 7) = (12, 200) := by rcases h with rfl | rfl <;> decide +kernel
theorem lo_isLa_7 {a : Nat} (h : isLa a) : (lay (a + 7)).1 = 12 := by rcases h with rfl | rfl <;> decide +kernel
theorem lt_isLa_8 {a : Nat} (h : isLa a) : a + 8 < 126 := by rcases h with rfl | rfl <;> decide
theorem lay_isLa_8 {a : Nat} (h : isLa a) : lay (a + 8) = (12, 200) := by rcases h with rfl | rfl <;> decide +kernel
theorem lo_isLa_8 {a : Nat} (h : isLa a) : (lay (a + 8)).1 = 12 := by rcases h with rfl | rfl <;> decide +kernel
theorem lt_isLa_9 {a : Nat} (h : isLa a) : a + 9 < 126 := by rcases h with rfl | rfl <;> decide
theorem lay_isLa_9 {a : Nat} (h : isLa a) : lay (a + 9) = (12, 200) := by rcases h with rfl | rfl <;> decide +kernel
theorem lo_isLa_9 {a : Nat} (h : isLa a) : (lay (a + 9)).1 = 12 := by rcases h with rfl | rfl <;> decide +kernel
theorem lt_isLw_0 {a : Nat} (h : isLw a) : a < 126 := by rcases h with rfl | rfl <;> decide
theorem lay_isLw_0 {a : Nat} (h : isLw a) : lay (a) = (2, 4) := by rcases h with rfl | rfl <;> decide +kernel
theorem lo_isLw_0 {a : Nat} (h : isLw a) : (lay (a)).1 = 2 := by rcases h with rfl | rfl <;> decide +kernel
theorem rt_isLw_0_0 (t u w v : Nat) (x : Option Nat) {a : Nat} (h : isLw a) : RT t u w v x (a) 0 = some (a + 1) := by rcases h with rfl | rfl <;> rfl
theorem rt_isLw_0_2 (t u w v : Nat) (x : Option Nat) {a : Nat} (h : isLw a) : RT t u w v x (a) 2 = some (a + 2) := by rcases h with rfl | rfl <;> rfl
theorem lt_isLw_1 {a : Nat} (h : isLw a) : a + 1 < 126 := by rcases h with rfl | rfl <;> decide
theorem lay_isLw_1 {a : Nat} (h : isLw a) : lay (a + 1) = (12, 1000) := by rcases h with rfl | rfl <;> decide +kernel
theorem lo_isLw_1 {a : Nat} (h : isLw a) : (lay (a + 1)).1 = 12 := by rcases h with rfl | rfl <;> decide +kernel
theorem lt_isLw_2 {a : Nat} (h : isLw a) : a + 2 < 126 := by rcases h with rfl | rfl <;> decide
theorem lay_isLw_2 {a : Nat} (h : isLw a) : lay (a + 2) = (12, 24) := by rcases h with rfl | rfl <;> decide +kernel
theorem lo_isLw_2 {a : Nat} (h : isLw a) : (lay (a + 2)).1 = 12 := by rcases h with rfl | rfl <;> decide +kernel
theorem lt_isSt_0 {a : Nat} (h : isSt a) : a < 126 := by rcases h with rfl | rfl | rfl | rfl <;> decide
theorem lay_isSt_0 {a : Nat} (h : isSt a) : lay (a) = (5, 8) := by rcases h with rfl | rfl | rfl | rfl <;> decide +kernel
theorem lo_isSt_0 {a : Nat} (h : isSt a) : (lay (a)).1 = 5 := by rcases h with rfl | rfl | rfl | rfl <;> decide +kernel
theorem rt_isSt_0_0 (t u w v : Nat) (x : Option Nat) {a : Nat} (h : isSt a) : RT t u w v x (a) 0 = some 26 := by rcases h with rfl | rfl | rfl | rfl <;> rfl
theorem rt_isSt_0_2 (t u w v : Nat) (x : Option Nat) {a : Nat} (h : isSt a) : RT t u w v x (a) 2 = some (a + 1) := by rcases h with rfl | rfl | rfl | rfl <;> rfl
theorem rt_isSt_0_3 (t u w v : Nat) (x : Option Nat) {a : Nat} (h : isSt a) : RT t u w v x (a) 3 = some (a + 2) := by rcases h with rfl | rfl | rfl | rfl <;> rfl
theorem rt_isSt_0_4 (t u w v : Nat) (x : Option Nat) {a : Nat} (h : isSt a) : RT t u w v x (a) 4 = some (a + 3) := by rcases h with rfl | rfl | rfl | rfl <;> rfl
theorem rt_isSt_0_6 (t u w v : Nat) (x : Option Nat) {a : Nat} (h : isSt a) : RT t u w v x (a) 6 = some (a + 4) := by rcases h with rfl | rfl | rfl | rfl <;> rfl
theorem lt_isSt_1 {a : Nat} (h : isSt a) : a + 1 < 126 := by rcases h with rfl | rfl | rfl | rfl <;> decide
theorem lay_isSt_1 {a : Nat} (h : isSt a) : lay (a + 1) = (12, 200) := by rcases h with rfl | rfl | rfl | rfl <;> decide +kernel
theorem lo_isSt_1 {a : Nat} (h : isSt a) : (lay (a + 1)).1 = 12 := by rcases h with rfl | rfl | rfl | rfl <;> decide +kernel
theorem lt_isSt_2 {a : Nat} (h : isSt a) : a + 2 < 126 := by rcases h with rfl | rfl | rfl | rfl <;> decide
theorem lay_isSt_2 {a : Nat} (h : isSt a) : lay (a + 2) = (12, 200) := by rcases h with rfl | rfl | rfl | rfl <;> decide +kernel
theorem lo_isSt_2 {a : Nat} (h : isSt a) : (lay (a + 2)).1 = 12 := by rcases h with rfl | rfl | rfl | rfl <;> decide +kernel
theorem lt_isSt_3 {a : Nat} (h : isSt a) : a + 3 < 126 := by rcases h with rfl | rfl | rfl | rfl <;> decide
theorem lay_isSt_3 {a : Nat} (h : isSt a) : lay (a + 3) = (12, 13) := by rcases h with rfl | rfl | rfl | rfl <;> decide +kernel
theorem lo_isSt_3 {a : Nat} (h : isSt a) : (lay (a + 3)).1 = 12 := by rcases h with rfl | rfl | rfl | rfl <;> decide +kernel
theorem lt_isSt_4 {a : Nat} (h : isSt a) : a + 4 < 126 := by rcases h with rfl | rfl | rfl | rfl <;> decide
theorem lay_isSt_4 {a : Nat} (h : isSt a) : lay (a + 4) = (12, 8) := by rcases h with rfl | rfl | rfl | rfl <;> decide +kernel
theorem lo_isSt_4 {a : Nat} (h : isSt a) : (lay (a + 4)).1 = 12 := by rcases h with rfl | rfl | rfl | rfl <;> decide +kernel
theorem lt_isTo_0 {a : Nat} (h : isTo a) : a < 126 := by rcases h with rfl | rfl <;> decide
theorem lay_isTo_0 {a : Nat} (h : isTo a) : lay (a) = (7, 7) := by rcases h with rfl | rfl <;> decide +kernel
theorem lo_isTo_0 {a : Nat} (h : isTo a) : (lay (a)).1 = 7 := by rcases h with rfl | rfl <;> decide +kernel
theorem rt_isTo_0_3 (t u w v : Nat) (x : Option Nat) {a : Nat} (h : isTo a) : RT t u w v x (a) 3 = some (a + 1) := by rcases h with rfl | rfl <;> rfl
theorem rt_isTo_0_4 (t u w v : Nat) (x : Option Nat) {a : Nat} (h : isTo a) : RT t u w v x (a) 4 = some (a + 2) := by rcases h with rfl | rfl <;> rfl
theorem rt_isTo_0_5 (t u w v : Nat) (x : Option Nat) {a : Nat} (h : isTo a) : RT t u w v x (a) 5 = some (a + 3) := by rcases h with rfl | rfl <;> rfl
theorem rt_isTo_0_6 (t u w v : Nat) (x : Option Nat) {a : Nat} (h : isTo a) : RT t u w v x (a) 6 = some (a + 4) := by rcases h with rfl | rfl <;> rfl
theorem lt_isTo_1 {a : Nat} (h : isTo a) : a + 1 < 126 := by rcases h with rfl | rfl <;> decide
theorem lay_isTo_1 {a : Nat} (h : isTo a) : lay (a + 1) = (12, 6) := by rcases h with rfl | rfl <;> decide +kernel
theorem lo_isTo_1 {a : Nat} (h : isTo a) : (lay (a + 1)).1 = 12 := by rcases h with rfl | rfl <;> decide +kernel
theorem lt_isTo_2 {a : Nat} (h : isTo a) : a + 2 < 126 := by rcases h with rfl | rfl <;> decide
theorem lay_isTo_2 {a : Nat} (h : isTo a) : lay (a + 2) = (12, 6) := by rcases h with rfl | rfl <;> decide +kernel
theorem lo_isTo_2 {a : Nat} (h : isTo a) : (lay (a + 2)).1 = 12 := by rcases h with rfl | rfl <;> decide +kernel
theorem lt_isTo_3 {a : Nat} (h : isTo a) : a + 3 < 126 := by rcases h with rfl | rfl <;> decide
theorem lay_isTo_3 {a : Nat} (h : isTo a) : lay (a + 3) = (12, 30) := by rcases h with rfl | rfl <;> decide +kernel
theorem lo_isTo_3 {a : Nat} (h : isTo a) : (lay (a + 3)).1 = 12 := by rcases h with rfl | rfl <;> decide +kernel
theorem lt_isTo_4 {a : Nat} (h : isTo a) : a + 4 < 126 := by rcases h with rfl | rfl <;> decide
theorem lay_isTo_4 {a : Nat} (h : isTo a) : lay (a + 4) = (2, 4) := by rcases h with rfl | rfl <;> decide +kernel
theorem lo_isTo_4 {a : Nat} (h : isTo a) : (lay (a + 4)).1 = 2 := by rcases h with rfl | rfl <;> decide +kernel
theorem lt_isWk_0 {a : Nat} (h : isWk a) : a < 126 := by rcases h with rfl | rfl <;> decide
theorem lay_isWk_0 {a : Nat} (h : isWk a) : lay (a) = (8, 5) := by rcases h with rfl | rfl <;> decide +kernel
theorem lo_isWk_0 {a : Nat} (h : isWk a) : (lay (a)).1 = 8 := by rcases h with rfl | rfl <;> decide +kernel
theorem rt_isWk_0_0 (t u w v : Nat) (x : Option Nat) {a : Nat} (h : isWk a) : RT t u w v x (a) 0 = some 1 := by rcases h with rfl | rfl <;> rfl
theorem rt_isWk_0_1 (t u w v : Nat) (x : Option Nat) {a : Nat} (h : isWk a) : RT t u w v x (a) 1 = some (a + 1) := by rcases h with rfl | rfl <;> rfl
theorem rt_isWk_0_2 (t u w v : Nat) (x : Option Nat) {a : Nat} (h : isWk a) : RT t u w v x (a) 2 = some (a + 2) := by rcases h with rfl | rfl <;> rfl
theorem rt_isWk_0_3 (t u w v : Nat) (x : Option Nat) {a : Nat} (h : isWk a) : RT t u w v x (a) 3 = some (a + 3) := by rcases h with rfl | rfl <;> rfl
theorem lt_isWk_1 {a : Nat} (h : isWk a) : a + 1 < 126 := by rcases h with rfl | rfl <;> decide
theorem lay_isWk_1 {a : Nat} (h : isWk a) : lay (a + 1) = (12, 40) := by rcases h with rfl | rfl <;> decide +kernel
theorem lo_isWk_1 {a : Nat} (h : isWk a) : (lay (a + 1)).1 = 12 := by rcases h with rfl | rfl <;> decide +kernel
theorem lt_isWk_2 {a : Nat} (h : isWk a) : a + 2 < 126 := by rcases h with rfl | rfl <;> decide
theorem lay_isWk_2 {a : Nat} (h : isWk a) : lay (a + 2) = (12, 40) := by rcases h with rfl | rfl <;> decide +kernel
theorem lo_isWk_2 {a : Nat} (h : isWk a) : (lay (a + 2)).1 = 12 := by rcases h with rfl | rfl <;> decide +kernel
theorem lt_isWk_3 {a : Nat} (h : isWk a) : a + 3 < 126 := by rcases h with rfl | rfl <;> decide
theorem lay_isWk_3 {a : Nat} (h : isWk a) : lay (a + 3) = (12, 40) := by rcases h with rfl | rfl <;> decide +kernel
theorem lo_isWk_3 {a : Nat} (h : isWk a) : (lay (a + 3)).1 = 12 := by rcases h with rfl | rfl <;> decide +kernel
theorem p_isIa_117 : isIa 117 := by exact ⟨by decide +kernel, by decide⟩
theorem p_isIa_118 : isIa 118 := by exact ⟨by decide +kernel, by decide⟩
theorem p_isIa_119 : isIa 119 := by exact ⟨by decide +kernel, by decide⟩
theorem p_isIa_120 : isIa 120 := by exact ⟨by decide +kernel, by decide⟩
theorem p_isIa_37 : isIa 37 := by exact ⟨by decide +kernel, by decide⟩
theorem p_isIa_38 : isIa 38 := by exact ⟨by decide +kernel, by decide⟩
theorem p_isIa_39 : isIa 39 := by exact ⟨by decide +kernel, by decide⟩
theorem p_isIa_62 : isIa 62 := by exact ⟨by decide +kernel, by decide⟩
theorem p_isIa_80 : isIa 80 := by exact ⟨by decide +kernel, by decide⟩
theorem p_isIa_81 : isIa 81 := by exact ⟨by decide +kernel, by decide⟩
theorem p_isIa_82 : isIa 82 := by exact ⟨by decide +kernel, by decide⟩
theorem p_isIa_83 : isIa 83 := by exact ⟨by decide +kernel, by decide⟩
theorem p_isIa_86 : isIa 86 := by exact ⟨by decide +kernel, by decide⟩
theorem p_isLa_26 : isLa 26 := by simp [isLa]
theorem p_isLa_40 : isLa 40 := by simp [isLa]
theorem p_isSt_54 : isSt 54 := by simp [isSt]
theorem p_isSt_59 : isSt 59 := by simp [isSt]
theorem p_isSt_65 : isSt 65 := by simp [isSt]
theorem p_isSt_70 : isSt 70 := by simp [isSt]
theorem p_isTx_1000 : isTx 1000 := by exact ⟨by decide, by decide⟩
theorem p_isTx_1001 : isTx 1001 := by exact ⟨by decide, by decide⟩
theorem p_isTx_1002 : isTx 1002 := by exact ⟨by decide, by decide⟩
theorem p_isTx_1003 : isTx 1003 := by exact ⟨by decide, by decide⟩
theorem p_isTx_1004 : isTx 1004 := by exact ⟨by decide, by decide⟩
theorem p_isTx_1005 : isTx 1005 := by exact ⟨by decide, by decide⟩
theorem p_isTx_1006 : isTx 1006 := by exact ⟨by decide, by decide⟩
theorem p_isTx_1007 : isTx 1007 := by exact ⟨by decide, by decide⟩
theorem p_isTx_1008 : isTx 1008 := by exact ⟨by decide, by decide⟩
theorem p_isTx_1009 : isTx 1009 := by exact ⟨by decide, by decide⟩
theorem p_isTx_1010 : isTx 1010 := by exact ⟨by decide, by decide⟩
theorem p_isTx_1011 : isTx 1011 := by exact ⟨by decide, by decide⟩
theorem p_isTx_1012 : isTx 1012 := by exact ⟨by decide, by decide⟩
theorem p_isTx_1013 : isTx 1013 := by exact ⟨by decide, by decide⟩
theorem p_isTx_1014 : isTx 1014 := by exact ⟨by decide, by decide⟩
theorem p_isTx_1015 : isTx 1015 := by exact ⟨by decide, by decide⟩
theorem p_isTx_1016 : isTx 1016 := by exact ⟨by decide, by decide⟩
theorem p_isTx_1017 : isTx 1017 := by exact ⟨by decide, by decide⟩
theorem p_isTx_1018 : isTx 1018 := by exact ⟨by decide, by decide⟩
theorem p_isTx_1019 : isTx 1019 := by exact ⟨by decide, by decide⟩
theorem p_isTx_1020 : isTx 1020 := by exact ⟨by decide, by decide⟩
theorem p_isTx_1021 : isTx 1021 := by exact ⟨by decide, by decide⟩
theorem gt_RX0 : ∀ w ∈ wsX00, w ∈ gt := gt_all inX0 (by decide +kernel)
theorem gt_RX10 : ∀ w ∈ wsX100, w ∈ gt := gt_all inX10 (by decide +kernel)
theorem gt_RX11 : ∀ w ∈ wsX110, w ∈ gt := gt_all inX11 (by decide +kernel)
theorem gt_RX2 : ∀ w ∈ wsX20, w ∈ gt := gt_all inX2 (by decide +kernel)
theorem gt_RX3 : ∀ w ∈ wsX30, w ∈ gt := gt_all inX3 (by decide +kernel)
theorem gt_RX4 : ∀ w ∈ wsX40, w ∈ gt := gt_all inX4 (by decide +kernel)
theorem gt_RX5 : ∀ w ∈ wsX50, w ∈ gt := gt_all inX5 (by decide +kernel)
theorem gt_RX6 : ∀ w ∈ wsX60, w ∈ gt := gt_all inX6 (by decide +kernel)
theorem gt_RX7 : ∀ w ∈ wsX70, w ∈ gt := gt_all inX7 (by decide +kernel)
theorem gt_RX8 : ∀ w ∈ wsX80, w ∈ gt := gt_all inX8 (by decide +kernel)
theorem gt_RX9 : ∀ w ∈ wsX90, w ∈ gt := gt_all inX9 (by decide +kernel)
theorem fl_RX0_9 : FL RX0 9 0 0 := ⟨_, _, _, rfl, gt_RX0, by decide, by decide, by decide, gt_of (List.mem_of_getElem? (i := 251) (by decide +kernel)) rfl⟩
theorem fl_RX0_15 : FL RX0 15 0 1 := ⟨_, _, _, rfl, gt_RX0, by decide, by decide, by decide, gt_of (List.mem_of_getElem? (i := 252) (by decide +kernel)) rfl⟩
theorem fl_RX0_29 : FL RX0 29 6 6 := ⟨_, _, _, rfl, gt_RX7, by decide, by decide, by decide, gt_of (List.mem_of_getElem? (i := 162) (by decide +kernel)) rfl⟩
theorem fl_RX0_33 : FL RX0 33 6 2 := ⟨_, _, _, rfl, gt_RX7, by decide, by decide, by decide, gt_of (List.mem_of_getElem? (i := 155) (by decide +kernel)) rfl⟩
theorem fl_RX0_64 : FL RX0 64 7 0 := ⟨_, _, _, rfl, gt_RX8, by decide, by decide, by decide, gt_of (List.mem_of_getElem? (i := 209) (by decide +kernel)) rfl⟩
theorem fl_RX0_77 : FL RX0 77 7 1 := ⟨_, _, _, rfl, gt_RX8, by decide, by decide, by decide, gt_of (List.mem_of_getElem? (i := 213) (by decide +kernel)) rfl⟩
theorem fl_RX0_79 : FL RX0 79 7 6 := ⟨_, _, _, rfl, gt_RX8, by decide, by decide, by decide, gt_of (List.mem_of_getElem? (i := 229) (by decide +kernel)) rfl⟩
theorem fl_RX0_83 : FL RX0 83 2 1 := ⟨_, _, _, rfl, gt_RX3, by decide, by decide, by decide, gt_of (List.mem_of_getElem? (i := 195) (by decide +kernel)) rfl⟩
theorem fl_RX0_92 : FL RX0 92 7 2 := ⟨_, _, _, rfl, gt_RX8, by decide, by decide, by decide, gt_of (List.mem_of_getElem? (i := 217) (by decide +kernel)) rfl⟩
theorem fl_RX0_99 : FL RX0 99 7 3 := ⟨_, _, _, rfl, gt_RX8, by decide, by decide, by decide, gt_of (List.mem_of_getElem? (i := 221) (by decide +kernel)) rfl⟩
theorem fl_RX0_103 : FL RX0 103 7 4 := ⟨_, _, _, rfl, gt_RX8, by decide, by decide, by decide, gt_of (List.mem_of_getElem? (i := 224) (by decide +kernel)) rfl⟩
theorem fl_RX0_120 : FL RX0 120 6 5 := ⟨_, _, _, rfl, gt_RX7, by decide, by decide, by decide, gt_of (List.mem_of_getElem? (i := 160) (by decide +kernel)) rfl⟩
theorem fl_RX0_127 : FL RX0 127 7 5 := ⟨_, _, _, rfl, gt_RX8, by decide, by decide, by decide, gt_of (List.mem_of_getElem? (i := 226) (by decide +kernel)) rfl⟩
theorem fl_RX1_15 : FL RX1 15 7 0 := ⟨_, _, _, rfl, gt_RX8, by decide, by decide, by decide, gt_of (List.mem_of_getElem? (i := 210) (by decide +kernel)) rfl⟩
theorem fl_RX1_27 : FL RX1 27 7 2 := ⟨_, _, _, rfl, gt_RX8, by decide, by decide, by decide, gt_of (List.mem_of_getElem? (i := 216) (by decide +kernel)) rfl⟩
theorem fl_RX1_30 : FL RX1 30 7 3 := ⟨_, _, _, rfl, gt_RX8, by decide, by decide, by decide, gt_of (List.mem_of_getElem? (i := 220) (by decide +kernel)) rfl⟩
theorem fl_RX10_12 : FL RX10 12 9 0 := ⟨_, _, _, rfl, gt_RX10, by decide, by decide, by decide, gt_of (List.mem_of_getElem? (i := 426) (by decide +kernel)) rfl⟩
theorem fl_RX10_19 : FL RX10 19 9 1 := ⟨_, _, _, rfl, gt_RX10, by decide, by decide, by decide, gt_of (List.mem_of_getElem? (i := 427) (by decide +kernel)) rfl⟩
theorem fl_RX10_23 : FL RX10 23 9 2 := ⟨_, _, _, rfl, gt_RX10, by decide, by decide, by decide, gt_of (List.mem_of_getElem? (i := 428) (by decide +kernel)) rfl⟩
theorem fl_RX10_31 : FL RX10 31 9 3 := ⟨_, _, _, rfl, gt_RX10, by decide, by decide, by decide, gt_of (List.mem_of_getElem? (i := 429) (by decide +kernel)) rfl⟩
