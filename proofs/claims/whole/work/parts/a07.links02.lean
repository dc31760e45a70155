theorem lay_4 : lay 4 = (7, 7) := by decide +kernel
theorem lo_4 : (lay 4).1 = 7 := by decide +kernel
theorem ltc_4 : 4 < 126 := by decide
theorem lay_5 : lay 5 = (12, 6) := by decide +kernel
theorem lo_5 : (lay 5).1 = 12 := by decide +kernel
theorem ltc_5 : 5 < 126 := by decide
theorem lay_6 : lay 6 = (12, 6) := by decide +kernel
theorem lo_6 : (lay 6).1 = 12 := by decide +kernel
theorem ltc_6 : 6 < 126 := by decide
theorem lay_7 : lay 7 = (12, 30) := by decide +kernel
theorem lo_7 : (lay 7).1 = 12 := by decide +kernel
theorem ltc_7 : 7 < 126 := by decide
theorem lay_8 : lay 8 = (2, 4) := by decide +kernel
theorem lo_8 : (lay 8).1 = 2 := by decide +kernel
theorem ltc_8 : 8 < 126 := by decide
theorem lay_9 : lay 9 = (12, 1000) := by decide +kernel
theorem lo_9 : (lay 9).1 = 12 := by decide +kernel
theorem ltc_9 : 9 < 126 := by decide
theorem lay_10 : lay 10 = (12, 24) := by decide +kernel
theorem lo_10 : (lay 10).1 = 12 := by decide +kernel
theorem ltc_10 : 10 < 126 := by decide
theorem lay_11 : lay 11 = (7, 7) := by decide +kernel
theorem lo_11 : (lay 11).1 = 7 := by decide +kernel
theorem ltc_11 : 11 < 126 := by decide
theorem lay_12 : lay 12 = (12, 6) := by decide +kernel
theorem lo_12 : (lay 12).1 = 12 := by decide +kernel
theorem ltc_12 : 12 < 126 := by decide
theorem lay_13 : lay 13 = (12, 6) := by decide +kernel
theorem lo_13 : (lay 13).1 = 12 := by decide +kernel
theorem ltc_13 : 13 < 126 := by decide
theorem lay_14 : lay 14 = (12, 30) := by decide +kernel
theorem lo_14 : (lay 14).1 = 12 := by decide +kernel
theorem ltc_14 : 14 < 126 := by decide
theorem lay_15 : lay 15 = (2, 4) := by decide +kernel
theorem lo_15 : (lay 15).1 = 2 := by decide +kernel
theorem ltc_15 : 15 < 126 := by decide
theorem lay_16 : lay 16 = (12, 1000) := by decide +kernel
theorem lo_16 : (lay 16).1 = 12 := by decide +kernel
theorem ltc_16 : 16 < 126 := by decide
theorem lay_17 : lay 17 = (12, 24) := by decide +kernel
theorem lo_17 : (lay 17).1 = 12 := by decide +kernel
theorem ltc_17 : 17 < 126 := by decide
theorem lay_18 : lay 18 = (8, 5) := by decide +kernel
theorem lo_18 : (lay 18).1 = 8 := by decide +kernel
theorem ltc_18 : 18 < 126 := by decide
theorem lay_19 : lay 19 = (12, 40) := by decide +kernel
theorem lo_19 : (lay 19).1 = 12 := by decide +kernel
theorem ltc_19 : 19 < 126 := by decide
theorem lay_20 : lay 20 = (12, 40) := by decide +kernel
theorem lo_20 : (lay 20).1 = 12 := by decide +kernel
theorem ltc_20 : 20 < 126 := by decide
theorem lay_21 : lay 21 = (12, 40) := by decide +kernel
theorem lo_21 : (lay 21).1 = 12 := by decide +kernel
theorem ltc_21 : 21 < 126 := by decide
theorem lay_22 : lay 22 = (8, 5) := by decide +kernel
theorem lo_22 : (lay 22).1 = 8 := by decide +kernel
theorem ltc_22 : 22 < 126 := by decide
theorem lay_23 : lay 23 = (12, 40) := by decide +kernel
theorem lo_23 : (lay 23).1 = 12 := by decide +kernel
theorem ltc_23 : 23 < 126 := by decide
theorem lay_24 : lay 24 = (12, 40) := by decide +kernel
theorem lo_24 : (lay 24).1 = 12 := by decide +kernel
theorem ltc_24 : 24 < 126 := by decide
theorem lay_25 : lay 25 = (12, 40) := by decide +kernel
theorem lo_25 : (lay 25).1 = 12 := by decide +kernel
theorem ltc_25 : 25 < 126 := by decide
theorem lay_41 : lay 41 = (12, 40) := by decide +kernel
theorem lo_41 : (lay 41).1 = 12 := by decide +kernel
theorem ltc_41 : 41 < 126 := by decide
theorem lay_42 : lay 42 = (12, 40) := by decide +kernel
theorem lo_42 : (lay 42).1 = 12 := by decide +kernel
theorem ltc_42 : 42 < 126 := by decide
theorem lay_43 : lay 43 = (12, 40) := by decide +kernel
theorem lo_43 : (lay 43).1 = 12 := by decide +kernel
theorem ltc_43 : 43 < 126 := by decide
theorem lay_44 : lay 44 = (12, 40) := by decide +kernel
theorem lo_44 : (lay 44).1 = 12 := by decide +kernel
theorem ltc_44 : 44 < 126 := by decide
theorem lay_45 : lay 45 = (12, 40) := by decide +kernel
theorem lo_45 : (lay 45).1 = 12 := by decide +kernel
theorem ltc_45 : 45 < 126 := by decide
theorem lay_46 : lay 46 = (12, 40) := by decide +kernel
theorem lo_46 : (lay 46).1 = 12 := by decide +kernel
theorem ltc_46 : 46 < 126 := by decide
theorem lay_47 : lay 47 = (12, 200) := by decide +kernel
theorem lo_47 : (lay 47).1 = 12 := by decide +kernel
theorem ltc_47 : 47 < 126 := by decide
theorem lay_48 : lay 48 = (12, 200) := by decide +kernel
theorem lo_48 : (lay 48).1 = 12 := by decide +kernel
theorem ltc_48 : 48 < 126 := by decide
theorem lay_49 : lay 49 = (12, 200) := by decide +kernel
theorem lo_49 : (lay 49).1 = 12 := by decide +kernel
theorem ltc_49 : 49 < 126 := by decide
theorem lay_50 : lay 50 = (12, 160) := by decide +kernel
theorem lo_50 : (lay 50).1 = 12 := by decide +kernel
theorem ltc_50 : 50 < 126 := by decide
theorem lay_51 : lay 51 = (12, 13) := by decide +kernel
theorem lo_51 : (lay 51).1 = 12 := by decide +kernel
theorem ltc_51 : 51 < 126 := by decide
theorem lay_52 : lay 52 = (12, 13) := by decide +kernel
theorem lo_52 : (lay 52).1 = 12 := by decide +kernel
theorem ltc_52 : 52 < 126 := by decide
theorem lay_53 : lay 53 = (12, 13) := by decide +kernel
theorem lo_53 : (lay 53).1 = 12 := by decide +kernel
theorem ltc_53 : 53 < 126 := by decide
theorem lay_56 : lay 56 = (12, 200) := by decide +kernel
theorem lo_56 : (lay 56).1 = 12 := by decide +kernel
theorem ltc_56 : 56 < 126 := by decide
theorem lay_60 : lay 60 = (12, 200) := by decide +kernel
theorem lo_60 : (lay 60).1 = 12 := by decide +kernel
theorem ltc_60 : 60 < 126 := by decide
theorem lay_61 : lay 61 = (12, 200) := by decide +kernel
theorem lo_61 : (lay 61).1 = 12 := by decide +kernel
theorem ltc_61 : 61 < 126 := by decide
theorem lay_62 : lay 62 = (12, 13) := by decide +kernel
theorem lo_62 : (lay 62).1 = 12 := by decide +kernel
theorem ltc_62 : 62 < 126 := by decide
theorem lay_63 : lay 63 = (12, 8) := by decide +kernel
theorem lo_63 : (lay 63).1 = 12 := by decide +kernel
theorem ltc_63 : 63 < 126 := by decide
theorem lay_66 : lay 66 = (12, 200) := by decide +kernel
theorem lo_66 : (lay 66).1 = 12 := by decide +kernel
theorem ltc_66 : 66 < 126 := by decide
theorem lay_67 : lay 67 = (12, 200) := by decide +kernel
theorem lo_67 : (lay 67).1 = 12 := by decide +kernel
theorem ltc_67 : 67 < 126 := by decide
theorem lay_68 : lay 68 = (12, 13) := by decide +kernel
theorem lo_68 : (lay 68).1 = 12 := by decide +kernel
theorem ltc_68 : 68 < 126 := by decide
theorem lay_69 : lay 69 = (12, 8) := by decide +kernel
theorem lo_69 : (lay 69).1 = 12 := by decide +kernel
theorem ltc_69 : 69 < 126 := by decide
theorem lay_71 : lay 71 = (12, 200) := by decide +kernel
theorem lo_71 : (lay 71).1 = 12 := by decide +kernel
theorem ltc_71 : 71 < 126 := by decide
theorem lay_72 : lay 72 = (12, 200) := by decide +kernel
theorem lo_72 : (lay 72).1 = 12 := by decide +kernel
theorem ltc_72 : 72 < 126 := by decide
theorem lay_73 : lay 73 = (12, 13) := by decide +kernel
theorem lo_73 : (lay 73).1 = 12 := by decide +kernel
theorem ltc_73 : 73 < 126 := by decide
theorem lay_74 : lay 74 = (12, 8) := by decide +kernel
theorem lo_74 : (lay 74).1 = 12 := by decide +kernel
theorem ltc_74 : 74 < 126 := by decide
theorem lay_118 : lay 118 = (12, 374) := by decide +kernel
theorem lo_118 : (lay 118).1 = 12 := by decide +kernel
theorem ltc_118 : 118 < 126 := by decide
theorem lay_120 : lay 120 = (12, 748) := by decide +kernel
theorem lo_120 : (lay 120).1 = 12 := by decide +kernel
theorem ltc_120 : 120 < 126 := by decide
theorem rt_59_4 (t u w v : Nat) (x : Option Nat) : RT t u w v x 59 4 = some 62 := rfl
theorem p_isIa_62 : isIa 62 := by exact ⟨by decide +kernel, by decide⟩
theorem cw_RX10_321 : CwV RX10 321 RX10 yX10_performDrawn cX10_performDrawn 7 none 2 := ⟨⟨gt_4 (gt_of (List.mem_of_getElem? (i := 1190) (by decide +kernel)) rfl) (gt_of (List.mem_of_getElem? (i := 1192) (by decide +kernel)) rfl) (gt_of (List.mem_of_getElem? (i := 38) (by decide +kernel)) rfl) (gt_of (List.mem_of_getElem? (i := 113) (by decide +kernel)) rfl), gt_of (List.mem_of_getElem? (i := 1193) (by decide +kernel)) rfl⟩, by decide +kernel, by decide⟩
theorem oi_RX2_1 : ∀ w ∈ ([.methodLink RX2 1 Lib.objectInit, .instanceMethod Lib.objectInit, .code Lib.objectInit ⟨#[0xb1]⟩ 1 none] : List Cond), w ∈ gt := gt_3 (gt_of (List.mem_of_getElem? (i := 1185) (by decide +kernel)) rfl) (gt_of (List.mem_of_getElem? (i := 143) (by decide +kernel)) rfl) (gt_of (List.mem_of_getElem? (i := 144) (by decide +kernel)) rfl)
theorem gt_2 {a b : Cond} (h1 : a ∈ gt) (h2 : b ∈ gt) : ∀ w ∈ [a, b], w ∈ gt := List.forall_mem_cons.mpr ⟨h1, List.forall_mem_cons.mpr ⟨h2, fun _ h => absurd h List.not_mem_nil⟩⟩
theorem ac_boolean : Cond.arrayClass .boolean ∈ gt := gt_of (List.mem_of_getElem? (i := 425) (by decide +kernel)) rfl
theorem ac_char : Cond.arrayClass .char ∈ gt := gt_of (List.mem_of_getElem? (i := 179) (by decide +kernel)) rfl
theorem ac_int : Cond.arrayClass .int ∈ gt := gt_of (List.mem_of_getElem? (i := 220) (by decide +kernel)) rfl
theorem ci_RX10_11 : CwIN RX10 11 yX7_init cX7_init 1 0 := ⟨⟨gt_2 (gt_of (List.mem_of_getElem? (i := 148) (by decide +kernel)) rfl) (gt_of (List.mem_of_getElem? (i := 114) (by decide +kernel)) rfl), gt_of (List.mem_of_getElem? (i := 149) (by decide +kernel)) rfl⟩, by decide +kernel, by decide, rfl, by decide +kernel⟩
theorem ci_RX10_18 : CwI RX10 18 yX0_init cX0_init 2 1 := ⟨⟨gt_3 (gt_of (List.mem_of_getElem? (i := 182) (by decide +kernel)) rfl) (gt_of (List.mem_of_getElem? (i := 183) (by decide +kernel)) rfl) (gt_of (List.mem_of_getElem? (i := 115) (by decide +kernel)) rfl), gt_of (List.mem_of_getElem? (i := 184) (by decide +kernel)) rfl⟩, by decide +kernel, by decide, rfl⟩
theorem ci_RX10_27 : CwIN RX10 27 yX8_init cX8_init 1 0 := ⟨⟨gt_2 (gt_of (List.mem_of_getElem? (i := 196) (by decide +kernel)) rfl) (gt_of (List.mem_of_getElem? (i := 116) (by decide +kernel)) rfl), gt_of (List.mem_of_getElem? (i := 197) (by decide +kernel)) rfl⟩, by decide +kernel, by decide, rfl, by decide +kernel⟩
theorem ci_RX10_318 : CwI RX10 318 yX2_init cX2_init 2 1 := ⟨⟨gt_3 (gt_of (List.mem_of_getElem? (i := 1182) (by decide +kernel)) rfl) (gt_of (List.mem_of_getElem? (i := 1183) (by decide +kernel)) rfl) (gt_of (List.mem_of_getElem? (i := 136) (by decide +kernel)) rfl), gt_of (List.mem_of_getElem? (i := 1184) (by decide +kernel)) rfl⟩, by decide +kernel, by decide, rfl⟩
theorem ci_RX10_37 : CwI RX10 37 yX9_init cX9_init 2 1 := ⟨⟨gt_3 (gt_of (List.mem_of_getElem? (i := 260) (by decide +kernel)) rfl) (gt_of (List.mem_of_getElem? (i := 261) (by decide +kernel)) rfl) (gt_of (List.mem_of_getElem? (i := 118) (by decide +kernel)) rfl), gt_of (List.mem_of_getElem? (i := 262) (by decide +kernel)) rfl⟩, by decide +kernel, by decide, rfl⟩
theorem ci_RX10_47 : CwIN RX10 47 yX4_init cX4_init 1 0 := ⟨⟨gt_2 (gt_of (List.mem_of_getElem? (i := 287) (by decide +kernel)) rfl) (gt_of (List.mem_of_getElem? (i := 119) (by decide +kernel)) rfl), gt_of (List.mem_of_getElem? (i := 288) (by decide +kernel)) rfl⟩, by decide +kernel, by decide, rfl, by decide +kernel⟩
theorem ci_RX10_57 : CwI RX10 57 yX6_init cX6_init 2 1 := ⟨⟨gt_3 (gt_of (List.mem_of_getElem? (i := 371) (by decide +kernel)) rfl) (gt_of (List.mem_of_getElem? (i := 372) (by decide +kernel)) rfl) (gt_of (List.mem_of_getElem? (i := 120) (by decide +kernel)) rfl), gt_of (List.mem_of_getElem? (i := 373) (by decide +kernel)) rfl⟩, by decide +kernel, by decide, rfl⟩
theorem ci_RX10_77 : CwI RX10 77 yX5_init cX5_init 3 2 := ⟨⟨gt_3 (gt_of (List.mem_of_getElem? (i := 411) (by decide +kernel)) rfl) (gt_of (List.mem_of_getElem? (i := 412) (by decide +kernel)) rfl) (gt_of (List.mem_of_getElem? (i := 121) (by decide +kernel)) rfl), gt_of (List.mem_of_getElem? (i := 413) (by decide +kernel)) rfl⟩, by decide +kernel, by decide, rfl⟩
theorem ci_RX8_23 : CwIN RX8 23 yX3_init cX3_init 1 0 := ⟨⟨gt_2 (gt_of (List.mem_of_getElem? (i := 202) (by decide +kernel)) rfl) (gt_of (List.mem_of_getElem? (i := 117) (by decide +kernel)) rfl), gt_of (List.mem_of_getElem? (i := 203) (by decide +kernel)) rfl⟩, by decide +kernel, by decide, rfl, by decide +kernel⟩
theorem cl_RX10_55 : Cond.classLink RX10 55 "ParitySpread$State" ∈ gt := gt_of (List.mem_of_getElem? (i := 369) (by decide +kernel)) rfl
theorem nw_RX10_16 : NwC RX10 16 0 := ⟨_, _, _, tyX0, rfl, gt_RX0, by decide, by decide, tyX0_ok, gt_of (List.mem_of_getElem? (i := 180) (by decide +kernel)) rfl, gt_of (List.mem_of_getElem? (i := 181) (by decide +kernel)) rfl, gt_of (List.mem_of_getElem? (i := 115) (by decide +kernel)) rfl, by decide +kernel⟩
theorem nw_RX10_25 : NwC RX10 25 7 := ⟨_, _, _, tyX8, rfl, gt_RX8, by decide, by decide, tyX8_ok, gt_of (List.mem_of_getElem? (i := 193) (by decide +kernel)) rfl, gt_of (List.mem_of_getElem? (i := 194) (by decide +kernel)) rfl, gt_of (List.mem_of_getElem? (i := 116) (by decide +kernel)) rfl, by decide +kernel⟩
theorem nw_RX10_316 : NwC RX10 316 1 := ⟨_, _, _, tyX2, rfl, gt_RX2, by decide, by decide, tyX2_ok, gt_of (List.mem_of_getElem? (i := 1180) (by decide +kernel)) rfl, gt_of (List.mem_of_getElem? (i := 1181) (by decide +kernel)) rfl, gt_of (List.mem_of_getElem? (i := 136) (by decide +kernel)) rfl, by decide +kernel⟩
theorem nw_RX10_35 : NwC RX10 35 8 := ⟨_, _, _, tyX9, rfl, gt_RX9, by decide, by decide, tyX9_ok, gt_of (List.mem_of_getElem? (i := 258) (by decide +kernel)) rfl, gt_of (List.mem_of_getElem? (i := 259) (by decide +kernel)) rfl, gt_of (List.mem_of_getElem? (i := 118) (by decide +kernel)) rfl, by decide +kernel⟩
theorem nw_RX10_45 : NwC RX10 45 3 := ⟨_, _, _, tyX4, rfl, gt_RX4, by decide, by decide, tyX4_ok, gt_of (List.mem_of_getElem? (i := 284) (by decide +kernel)) rfl, gt_of (List.mem_of_getElem? (i := 285) (by decide +kernel)) rfl, gt_of (List.mem_of_getElem? (i := 119) (by decide +kernel)) rfl, by decide +kernel⟩
theorem nw_RX10_55 : NwC RX10 55 5 := ⟨_, _, _, tyX6, rfl, gt_RX6, by decide, by decide, tyX6_ok, gt_of (List.mem_of_getElem? (i := 369) (by decide +kernel)) rfl, gt_of (List.mem_of_getElem? (i := 370) (by decide +kernel)) rfl, gt_of (List.mem_of_getElem? (i := 120) (by decide +kernel)) rfl, by decide +kernel⟩
theorem nw_RX10_75 : NwC RX10 75 4 := ⟨_, _, _, tyX5, rfl, gt_RX5, by decide, by decide, tyX5_ok, gt_of (List.mem_of_getElem? (i := 409) (by decide +kernel)) rfl, gt_of (List.mem_of_getElem? (i := 410) (by decide +kernel)) rfl, gt_of (List.mem_of_getElem? (i := 121) (by decide +kernel)) rfl, by decide +kernel⟩
theorem nw_RX10_9 : NwC RX10 9 6 := ⟨_, _, _, tyX7, rfl, gt_RX7, by decide, by decide, tyX7_ok, gt_of (List.mem_of_getElem? (i := 145) (by decide +kernel)) rfl, gt_of (List.mem_of_getElem? (i := 146) (by decide +kernel)) rfl, gt_of (List.mem_of_getElem? (i := 114) (by decide +kernel)) rfl, by decide +kernel⟩
theorem nw_RX8_21 : NwC RX8 21 2 := ⟨_, _, _, tyX3, rfl, gt_RX3, by decide, by decide, tyX3_ok, gt_of (List.mem_of_getElem? (i := 199) (by decide +kernel)) rfl, gt_of (List.mem_of_getElem? (i := 200) (by decide +kernel)) rfl, gt_of (List.mem_of_getElem? (i := 117) (by decide +kernel)) rfl, by decide +kernel⟩
theorem oi_RX0_3 : ∀ w ∈ ([.methodLink RX0 3 Lib.objectInit, .instanceMethod Lib.objectInit, .code Lib.objectInit ⟨#[0xb1]⟩ 1 none] : List Cond), w ∈ gt := gt_3 (gt_of (List.mem_of_getElem? (i := 185) (by decide +kernel)) rfl) (gt_of (List.mem_of_getElem? (i := 143) (by decide +kernel)) rfl) (gt_of (List.mem_of_getElem? (i := 144) (by decide +kernel)) rfl)
theorem oi_RX10_3 : ∀ w ∈ ([.methodLink RX10 3 Lib.objectInit, .instanceMethod Lib.objectInit, .code Lib.objectInit ⟨#[0xb1]⟩ 1 none] : List Cond), w ∈ gt := gt_3 (gt_of (List.mem_of_getElem? (i := 142) (by decide +kernel)) rfl) (gt_of (List.mem_of_getElem? (i := 143) (by decide +kernel)) rfl) (gt_of (List.mem_of_getElem? (i := 144) (by decide +kernel)) rfl)
theorem oi_RX11_1 : ∀ w ∈ ([.methodLink RX11 1 Lib.objectInit, .instanceMethod Lib.objectInit, .code Lib.objectInit ⟨#[0xb1]⟩ 1 none] : List Cond), w ∈ gt := gt_3 (gt_of (List.mem_of_getElem? (i := 1296) (by decide +kernel)) rfl) (gt_of (List.mem_of_getElem? (i := 143) (by decide +kernel)) rfl) (gt_of (List.mem_of_getElem? (i := 144) (by decide +kernel)) rfl)
theorem oi_RX3_3 : ∀ w ∈ ([.methodLink RX3 3 Lib.objectInit, .instanceMethod Lib.objectInit, .code Lib.objectInit ⟨#[0xb1]⟩ 1 none] : List Cond), w ∈ gt := gt_3 (gt_of (List.mem_of_getElem? (i := 204) (by decide +kernel)) rfl) (gt_of (List.mem_of_getElem? (i := 143) (by decide +kernel)) rfl) (gt_of (List.mem_of_getElem? (i := 144) (by decide +kernel)) rfl)
theorem oi_RX4_3 : ∀ w ∈ ([.methodLink RX4 3 Lib.objectInit, .instanceMethod Lib.objectInit, .code Lib.objectInit ⟨#[0xb1]⟩ 1 none] : List Cond), w ∈ gt := gt_3 (gt_of (List.mem_of_getElem? (i := 289) (by decide +kernel)) rfl) (gt_of (List.mem_of_getElem? (i := 143) (by decide +kernel)) rfl) (gt_of (List.mem_of_getElem? (i := 144) (by decide +kernel)) rfl)
theorem oi_RX5_3 : ∀ w ∈ ([.methodLink RX5 3 Lib.objectInit, .instanceMethod Lib.objectInit, .code Lib.objectInit ⟨#[0xb1]⟩ 1 none] : List Cond), w ∈ gt := gt_3 (gt_of (List.mem_of_getElem? (i := 414) (by decide +kernel)) rfl) (gt_of (List.mem_of_getElem? (i := 143) (by decide +kernel)) rfl) (gt_of (List.mem_of_getElem? (i := 144) (by decide +kernel)) rfl)
theorem oi_RX6_3 : ∀ w ∈ ([.methodLink RX6 3 Lib.objectInit, .instanceMethod Lib.objectInit, .code Lib.objectInit ⟨#[0xb1]⟩ 1 none] : List Cond), w ∈ gt := gt_3 (gt_of (List.mem_of_getElem? (i := 374) (by decide +kernel)) rfl) (gt_of (List.mem_of_getElem? (i := 143) (by decide +kernel)) rfl) (gt_of (List.mem_of_getElem? (i := 144) (by decide +kernel)) rfl)
theorem oi_RX7_3 : ∀ w ∈ ([.methodLink RX7 3 Lib.objectInit, .instanceMethod Lib.objectInit, .code Lib.objectInit ⟨#[0xb1]⟩ 1 none] : List Cond), w ∈ gt := gt_3 (gt_of (List.mem_of_getElem? (i := 150) (by decide +kernel)) rfl) (gt_of (List.mem_of_getElem? (i := 143) (by decide +kernel)) rfl) (gt_of (List.mem_of_getElem? (i := 144) (by decide +kernel)) rfl)
theorem oi_RX8_3 : ∀ w ∈ ([.methodLink RX8 3 Lib.objectInit, .instanceMethod Lib.objectInit, .code Lib.objectInit ⟨#[0xb1]⟩ 1 none] : List Cond), w ∈ gt := gt_3 (gt_of (List.mem_of_getElem? (i := 198) (by decide +kernel)) rfl) (gt_of (List.mem_of_getElem? (i := 143) (by decide +kernel)) rfl) (gt_of (List.mem_of_getElem? (i := 144) (by decide +kernel)) rfl)
theorem oi_RX9_3 : ∀ w ∈ ([.methodLink RX9 3 Lib.objectInit, .instanceMethod Lib.objectInit, .code Lib.objectInit ⟨#[0xb1]⟩ 1 none] : List Cond), w ∈ gt := gt_3 (gt_of (List.mem_of_getElem? (i := 263) (by decide +kernel)) rfl) (gt_of (List.mem_of_getElem? (i := 143) (by decide +kernel)) rfl) (gt_of (List.mem_of_getElem? (i := 144) (by decide +kernel)) rfl)
theorem pf_RX0_9 : PF RX0 9 0 0 (.object "ParitySpread$Tape") := ⟨_, _, _, rfl, gt_RX0, by decide, by decide, by decide, gt_of (List.mem_of_getElem? (i := 186) (by decide +kernel)) rfl, ⟨tyX0, tyX0_ok⟩, nmX0, rfl, rfl, by decide +kernel⟩
theorem pf_RX10_12 : PF RX10 12 9 0 (.object "ParitySpread$Tape") := ⟨_, _, _, rfl, gt_RX10, by decide, by decide, by decide, gt_of (List.mem_of_getElem? (i := 426) (by decide +kernel)) rfl, ⟨tyX10, tyX10_ok⟩, nmX10, rfl, rfl, by decide +kernel⟩
theorem pf_RX10_21 : PF RX10 21 9 1 (.object "ParitySpread$ArrayReader") := ⟨_, _, _, rfl, gt_RX10, by decide, by decide, by decide, gt_of (List.mem_of_getElem? (i := 427) (by decide +kernel)) rfl, ⟨tyX10, tyX10_ok⟩, nmX10, rfl, rfl, by decide +kernel⟩
theorem pf_RX10_48 : PF RX10 48 9 6 (.object "ParitySpread$Layout") := ⟨_, _, _, rfl, gt_RX10, by decide, by decide, by decide, gt_of (List.mem_of_getElem? (i := 432) (by decide +kernel)) rfl, ⟨tyX10, tyX10_ok⟩, nmX10, rfl, rfl, by decide +kernel⟩
theorem pf_RX10_52 : PF RX10 52 9 7 (.object "ParitySpread$Layout") := ⟨_, _, _, rfl, gt_RX10, by decide, by decide, by decide, gt_of (List.mem_of_getElem? (i := 433) (by decide +kernel)) rfl, ⟨tyX10, tyX10_ok⟩, nmX10, rfl, rfl, by decide +kernel⟩
theorem pf_RX10_60 : PF RX10 60 9 8 (.object "ParitySpread$State") := ⟨_, _, _, rfl, gt_RX10, by decide, by decide, by decide, gt_of (List.mem_of_getElem? (i := 434) (by decide +kernel)) rfl, ⟨tyX10, tyX10_ok⟩, nmX10, rfl, rfl, by decide +kernel⟩
theorem pf_RX10_64 : PF RX10 64 9 9 (.object "ParitySpread$State") := ⟨_, _, _, rfl, gt_RX10, by decide, by decide, by decide, gt_of (List.mem_of_getElem? (i := 435) (by decide +kernel)) rfl, ⟨tyX10, tyX10_ok⟩, nmX10, rfl, rfl, by decide +kernel⟩
theorem pf_RX10_67 : PF RX10 67 9 10 (.array (.object "ParitySpread$State")) := ⟨_, _, _, rfl, gt_RX10, by decide, by decide, by decide, gt_of (List.mem_of_getElem? (i := 436) (by decide +kernel)) rfl, ⟨tyX10, tyX10_ok⟩, nmX10, rfl, rfl, by decide +kernel⟩
theorem pf_RX10_71 : PF RX10 71 9 11 (.array .boolean) := ⟨_, _, _, rfl, gt_RX10, by decide, by decide, by decide, gt_of (List.mem_of_getElem? (i := 437) (by decide +kernel)) rfl, ⟨tyX10, tyX10_ok⟩, nmX10, rfl, rfl, by decide +kernel⟩
theorem pf_RX10_80 : PF RX10 80 9 12 (.object "ParitySpread$Outlook") := ⟨_, _, _, rfl, gt_RX10, by decide, by decide, by decide, gt_of (List.mem_of_getElem? (i := 438) (by decide +kernel)) rfl, ⟨tyX10, tyX10_ok⟩, nmX10, rfl, rfl, by decide +kernel⟩
theorem pf_RX11_101 : PF RX11 101 10 42 (.array .int) := ⟨_, _, _, rfl, gt_RX11, by decide, by decide, by decide, gt_of (List.mem_of_getElem? (i := 1343) (by decide +kernel)) rfl, ⟨tyX11, tyX11_ok⟩, nmX11, rfl, rfl, by decide +kernel⟩
theorem pf_RX11_104 : PF RX11 104 10 43 (.array .int) := ⟨_, _, _, rfl, gt_RX11, by decide, by decide, by decide, gt_of (List.mem_of_getElem? (i := 1344) (by decide +kernel)) rfl, ⟨tyX11, tyX11_ok⟩, nmX11, rfl, rfl, by decide +kernel⟩
theorem pf_RX11_107 : PF RX11 107 10 44 (.array .int) := ⟨_, _, _, rfl, gt_RX11, by decide, by decide, by decide, gt_of (List.mem_of_getElem? (i := 1345) (by decide +kernel)) rfl, ⟨tyX11, tyX11_ok⟩, nmX11, rfl, rfl, by decide +kernel⟩
theorem pf_RX11_110 : PF RX11 110 10 45 (.array .int) := ⟨_, _, _, rfl, gt_RX11, by decide, by decide, by decide, gt_of (List.mem_of_getElem? (i := 1346) (by decide +kernel)) rfl, ⟨tyX11, tyX11_ok⟩, nmX11, rfl, rfl, by decide +kernel⟩
theorem pf_RX11_113 : PF RX11 113 10 46 (.array .int) := ⟨_, _, _, rfl, gt_RX11, by decide, by decide, by decide, gt_of (List.mem_of_getElem? (i := 1347) (by decide +kernel)) rfl, ⟨tyX11, tyX11_ok⟩, nmX11, rfl, rfl, by decide +kernel⟩
theorem pf_RX11_116 : PF RX11 116 10 47 (.array .int) := ⟨_, _, _, rfl, gt_RX11, by decide, by decide, by decide, gt_of (List.mem_of_getElem? (i := 1348) (by decide +kernel)) rfl, ⟨tyX11, tyX11_ok⟩, nmX11, rfl, rfl, by decide +kernel⟩
theorem pf_RX11_119 : PF RX11 119 10 48 (.array .int) := ⟨_, _, _, rfl, gt_RX11, by decide, by decide, by decide, gt_of (List.mem_of_getElem? (i := 1349) (by decide +kernel)) rfl, ⟨tyX11, tyX11_ok⟩, nmX11, rfl, rfl, by decide +kernel⟩
theorem pf_RX11_122 : PF RX11 122 10 49 (.array .boolean) := ⟨_, _, _, rfl, gt_RX11, by decide, by decide, by decide, gt_of (List.mem_of_getElem? (i := 1350) (by decide +kernel)) rfl, ⟨tyX11, tyX11_ok⟩, nmX11, rfl, rfl, by decide +kernel⟩
theorem pf_RX11_125 : PF RX11 125 10 50 (.array .int) := ⟨_, _, _, rfl, gt_RX11, by decide, by decide, by decide, gt_of (List.mem_of_getElem? (i := 1351) (by decide +kernel)) rfl, ⟨tyX11, tyX11_ok⟩, nmX11, rfl, rfl, by decide +kernel⟩
theorem pf_RX11_128 : PF RX11 128 10 51 (.array .int) := ⟨_, _, _, rfl, gt_RX11, by decide, by decide, by decide, gt_of (List.mem_of_getElem? (i := 1352) (by decide +kernel)) rfl, ⟨tyX11, tyX11_ok⟩, nmX11, rfl, rfl, by decide +kernel⟩
theorem pf_RX11_13 : PF RX11 13 10 10 (.array .int) := ⟨_, _, _, rfl, gt_RX11, by decide, by decide, by decide, gt_of (List.mem_of_getElem? (i := 1311) (by decide +kernel)) rfl, ⟨tyX11, tyX11_ok⟩, nmX11, rfl, rfl, by decide +kernel⟩
theorem pf_RX11_131 : PF RX11 131 10 52 (.array .int) := ⟨_, _, _, rfl, gt_RX11, by decide, by decide, by decide, gt_of (List.mem_of_getElem? (i := 1353) (by decide +kernel)) rfl, ⟨tyX11, tyX11_ok⟩, nmX11, rfl, rfl, by decide +kernel⟩
theorem pf_RX11_134 : PF RX11 134 10 53 (.array .int) := ⟨_, _, _, rfl, gt_RX11, by decide, by decide, by decide, gt_of (List.mem_of_getElem? (i := 1354) (by decide +kernel)) rfl, ⟨tyX11, tyX11_ok⟩, nmX11, rfl, rfl, by decide +kernel⟩
theorem pf_RX11_137 : PF RX11 137 10 54 (.array .boolean) := ⟨_, _, _, rfl, gt_RX11, by decide, by decide, by decide, gt_of (List.mem_of_getElem? (i := 1355) (by decide +kernel)) rfl, ⟨tyX11, tyX11_ok⟩, nmX11, rfl, rfl, by decide +kernel⟩
theorem pf_RX11_140 : PF RX11 140 10 55 (.array .boolean) := ⟨_, _, _, rfl, gt_RX11, by decide, by decide, by decide, gt_of (List.mem_of_getElem? (i := 1356) (by decide +kernel)) rfl, ⟨tyX11, tyX11_ok⟩, nmX11, rfl, rfl, by decide +kernel⟩
theorem pf_RX11_143 : PF RX11 143 10 56 (.array .int) := ⟨_, _, _, rfl, gt_RX11, by decide, by decide, by decide, gt_of (List.mem_of_getElem? (i := 1357) (by decide +kernel)) rfl, ⟨tyX11, tyX11_ok⟩, nmX11, rfl, rfl, by decide +kernel⟩
theorem pf_RX11_146 : PF RX11 146 10 57 (.array .boolean) := ⟨_, _, _, rfl, gt_RX11, by decide, by decide, by decide, gt_of (List.mem_of_getElem? (i := 1358) (by decide +kernel)) rfl, ⟨tyX11, tyX11_ok⟩, nmX11, rfl, rfl, by decide +kernel⟩
theorem pf_RX11_16 : PF RX11 16 10 11 (.array .int) := ⟨_, _, _, rfl, gt_RX11, by decide, by decide, by decide, gt_of (List.mem_of_getElem? (i := 1312) (by decide +kernel)) rfl, ⟨tyX11, tyX11_ok⟩, nmX11, rfl, rfl, by decide +kernel⟩
theorem pf_RX11_19 : PF RX11 19 10 12 (.array .int) := ⟨_, _, _, rfl, gt_RX11, by decide, by decide, by decide, gt_of (List.mem_of_getElem? (i := 1313) (by decide +kernel)) rfl, ⟨tyX11, tyX11_ok⟩, nmX11, rfl, rfl, by decide +kernel⟩
theorem pf_RX11_22 : PF RX11 22 10 13 (.array .int) := ⟨_, _, _, rfl, gt_RX11, by decide, by decide, by decide, gt_of (List.mem_of_getElem? (i := 1314) (by decide +kernel)) rfl, ⟨tyX11, tyX11_ok⟩, nmX11, rfl, rfl, by decide +kernel⟩
theorem pf_RX11_25 : PF RX11 25 10 14 (.array .int) := ⟨_, _, _, rfl, gt_RX11, by decide, by decide, by decide, gt_of (List.mem_of_getElem? (i := 1315) (by decide +kernel)) rfl, ⟨tyX11, tyX11_ok⟩, nmX11, rfl, rfl, by decide +kernel⟩
theorem pf_RX11_28 : PF RX11 28 10 15 (.array .int) := ⟨_, _, _, rfl, gt_RX11, by decide, by decide, by decide, gt_of (List.mem_of_getElem? (i := 1316) (by decide +kernel)) rfl, ⟨tyX11, tyX11_ok⟩, nmX11, rfl, rfl, by decide +kernel⟩
theorem pf_RX11_31 : PF RX11 31 10 16 (.array .int) := ⟨_, _, _, rfl, gt_RX11, by decide, by decide, by decide, gt_of (List.mem_of_getElem? (i := 1317) (by decide +kernel)) rfl, ⟨tyX11, tyX11_ok⟩, nmX11, rfl, rfl, by decide +kernel⟩
theorem pf_RX11_34 : PF RX11 34 10 19 (.array .int) := ⟨_, _, _, rfl, gt_RX11, by decide, by decide, by decide, gt_of (List.mem_of_getElem? (i := 1320) (by decide +kernel)) rfl, ⟨tyX11, tyX11_ok⟩, nmX11, rfl, rfl, by decide +kernel⟩
theorem pf_RX11_37 : PF RX11 37 10 20 (.array .boolean) := ⟨_, _, _, rfl, gt_RX11, by decide, by decide, by decide, gt_of (List.mem_of_getElem? (i := 1321) (by decide +kernel)) rfl, ⟨tyX11, tyX11_ok⟩, nmX11, rfl, rfl, by decide +kernel⟩
theorem pf_RX11_41 : PF RX11 41 10 21 (.array .int) := ⟨_, _, _, rfl, gt_RX11, by decide, by decide, by decide, gt_of (List.mem_of_getElem? (i := 1322) (by decide +kernel)) rfl, ⟨tyX11, tyX11_ok⟩, nmX11, rfl, rfl, by decide +kernel⟩
theorem pf_RX11_44 : PF RX11 44 10 22 (.array .int) := ⟨_, _, _, rfl, gt_RX11, by decide, by decide, by decide, gt_of (List.mem_of_getElem? (i := 1323) (by decide +kernel)) rfl, ⟨tyX11, tyX11_ok⟩, nmX11, rfl, rfl, by decide +kernel⟩
theorem pf_RX11_47 : PF RX11 47 10 23 (.array .int) := ⟨_, _, _, rfl, gt_RX11, by decide, by decide, by decide, gt_of (List.mem_of_getElem? (i := 1324) (by decide +kernel)) rfl, ⟨tyX11, tyX11_ok⟩, nmX11, rfl, rfl, by decide +kernel⟩
theorem pf_RX11_50 : PF RX11 50 10 24 (.array .int) := ⟨_, _, _, rfl, gt_RX11, by decide, by decide, by decide, gt_of (List.mem_of_getElem? (i := 1325) (by decide +kernel)) rfl, ⟨tyX11, tyX11_ok⟩, nmX11, rfl, rfl, by decide +kernel⟩
theorem pf_RX11_53 : PF RX11 53 10 25 (.array .int) := ⟨_, _, _, rfl, gt_RX11, by decide, by decide, by decide, gt_of (List.mem_of_getElem? (i := 1326) (by decide +kernel)) rfl, ⟨tyX11, tyX11_ok⟩, nmX11, rfl, rfl, by decide +kernel⟩
theorem pf_RX11_56 : PF RX11 56 10 26 (.array .int) := ⟨_, _, _, rfl, gt_RX11, by decide, by decide, by decide, gt_of (List.mem_of_getElem? (i := 1327) (by decide +kernel)) rfl, ⟨tyX11, tyX11_ok⟩, nmX11, rfl, rfl, by decide +kernel⟩
theorem pf_RX11_59 : PF RX11 59 10 27 (.array .int) := ⟨_, _, _, rfl, gt_RX11, by decide, by decide, by decide, gt_of (List.mem_of_getElem? (i := 1328) (by decide +kernel)) rfl, ⟨tyX11, tyX11_ok⟩, nmX11, rfl, rfl, by decide +kernel⟩
theorem pf_RX11_62 : PF RX11 62 10 28 (.array .int) := ⟨_, _, _, rfl, gt_RX11, by decide, by decide, by decide, gt_of (List.mem_of_getElem? (i := 1329) (by decide +kernel)) rfl, ⟨tyX11, tyX11_ok⟩, nmX11, rfl, rfl, by decide +kernel⟩
theorem pf_RX11_65 : PF RX11 65 10 29 (.array .int) := ⟨_, _, _, rfl, gt_RX11, by decide, by decide, by decide, gt_of (List.mem_of_getElem? (i := 1330) (by decide +kernel)) rfl, ⟨tyX11, tyX11_ok⟩, nmX11, rfl, rfl, by decide +kernel⟩
theorem pf_RX11_68 : PF RX11 68 10 30 (.array .int) := ⟨_, _, _, rfl, gt_RX11, by decide, by decide, by decide, gt_of (List.mem_of_getElem? (i := 1331) (by decide +kernel)) rfl, ⟨tyX11, tyX11_ok⟩, nmX11, rfl, rfl, by decide +kernel⟩
theorem pf_RX11_7 : PF RX11 7 10 2 (.array .int) := ⟨_, _, _, rfl, gt_RX11, by decide, by decide, by decide, gt_of (List.mem_of_getElem? (i := 1303) (by decide +kernel)) rfl, ⟨tyX11, tyX11_ok⟩, nmX11, rfl, rfl, by decide +kernel⟩
theorem pf_RX11_71 : PF RX11 71 10 32 (.array .int) := ⟨_, _, _, rfl, gt_RX11, by decide, by decide, by decide, gt_of (List.mem_of_getElem? (i := 1333) (by decide +kernel)) rfl, ⟨tyX11, tyX11_ok⟩, nmX11, rfl, rfl, by decide +kernel⟩
theorem pf_RX11_74 : PF RX11 74 10 33 (.array .int) := ⟨_, _, _, rfl, gt_RX11, by decide, by decide, by decide, gt_of (List.mem_of_getElem? (i := 1334) (by decide +kernel)) rfl, ⟨tyX11, tyX11_ok⟩, nmX11, rfl, rfl, by decide +kernel⟩
theorem pf_RX11_77 : PF RX11 77 10 34 (.array .int) := ⟨_, _, _, rfl, gt_RX11, by decide, by decide, by decide, gt_of (List.mem_of_getElem? (i := 1335) (by decide +kernel)) rfl, ⟨tyX11, tyX11_ok⟩, nmX11, rfl, rfl, by decide +kernel⟩
theorem pf_RX11_80 : PF RX11 80 10 35 (.array .int) := ⟨_, _, _, rfl, gt_RX11, by decide, by decide, by decide, gt_of (List.mem_of_getElem? (i := 1336) (by decide +kernel)) rfl, ⟨tyX11, tyX11_ok⟩, nmX11, rfl, rfl, by decide +kernel⟩
theorem pf_RX11_83 : PF RX11 83 10 36 (.array .int) := ⟨_, _, _, rfl, gt_RX11, by decide, by decide, by decide, gt_of (List.mem_of_getElem? (i := 1337) (by decide +kernel)) rfl, ⟨tyX11, tyX11_ok⟩, nmX11, rfl, rfl, by decide +kernel⟩
theorem pf_RX11_86 : PF RX11 86 10 37 (.array .int) := ⟨_, _, _, rfl, gt_RX11, by decide, by decide, by decide, gt_of (List.mem_of_getElem? (i := 1338) (by decide +kernel)) rfl, ⟨tyX11, tyX11_ok⟩, nmX11, rfl, rfl, by decide +kernel⟩
theorem pf_RX11_89 : PF RX11 89 10 38 (.array .int) := ⟨_, _, _, rfl, gt_RX11, by decide, by decide, by decide, gt_of (List.mem_of_getElem? (i := 1339) (by decide +kernel)) rfl, ⟨tyX11, tyX11_ok⟩, nmX11, rfl, rfl, by decide +kernel⟩
theorem pf_RX11_92 : PF RX11 92 10 39 (.array .int) := ⟨_, _, _, rfl, gt_RX11, by decide, by decide, by decide, gt_of (List.mem_of_getElem? (i := 1340) (by decide +kernel)) rfl, ⟨tyX11, tyX11_ok⟩, nmX11, rfl, rfl, by decide +kernel⟩
theorem pf_RX11_95 : PF RX11 95 10 40 (.array .int) := ⟨_, _, _, rfl, gt_RX11, by decide, by decide, by decide, gt_of (List.mem_of_getElem? (i := 1341) (by decide +kernel)) rfl, ⟨tyX11, tyX11_ok⟩, nmX11, rfl, rfl, by decide +kernel⟩
theorem pf_RX11_98 : PF RX11 98 10 41 (.array .int) := ⟨_, _, _, rfl, gt_RX11, by decide, by decide, by decide, gt_of (List.mem_of_getElem? (i := 1342) (by decide +kernel)) rfl, ⟨tyX11, tyX11_ok⟩, nmX11, rfl, rfl, by decide +kernel⟩
theorem pf_RX3_15 : PF RX3 15 2 2 (.array .int) := ⟨_, _, _, rfl, gt_RX3, by decide, by decide, by decide, gt_of (List.mem_of_getElem? (i := 209) (by decide +kernel)) rfl, ⟨tyX3, tyX3_ok⟩, nmX3, rfl, rfl, by decide +kernel⟩
theorem pf_RX3_9 : PF RX3 9 2 0 (.array .int) := ⟨_, _, _, rfl, gt_RX3, by decide, by decide, by decide, gt_of (List.mem_of_getElem? (i := 205) (by decide +kernel)) rfl, ⟨tyX3, tyX3_ok⟩, nmX3, rfl, rfl, by decide +kernel⟩
theorem pf_RX4_15 : PF RX4 15 3 4 (.array .int) := ⟨_, _, _, rfl, gt_RX4, by decide, by decide, by decide, gt_of (List.mem_of_getElem? (i := 305) (by decide +kernel)) rfl, ⟨tyX4, tyX4_ok⟩, nmX4, rfl, rfl, by decide +kernel⟩
theorem pf_RX4_18 : PF RX4 18 3 5 (.array .int) := ⟨_, _, _, rfl, gt_RX4, by decide, by decide, by decide, gt_of (List.mem_of_getElem? (i := 308) (by decide +kernel)) rfl, ⟨tyX4, tyX4_ok⟩, nmX4, rfl, rfl, by decide +kernel⟩
theorem pf_RX4_21 : PF RX4 21 3 6 (.array .int) := ⟨_, _, _, rfl, gt_RX4, by decide, by decide, by decide, gt_of (List.mem_of_getElem? (i := 310) (by decide +kernel)) rfl, ⟨tyX4, tyX4_ok⟩, nmX4, rfl, rfl, by decide +kernel⟩
theorem pf_RX4_24 : PF RX4 24 3 7 (.array .int) := ⟨_, _, _, rfl, gt_RX4, by decide, by decide, by decide, gt_of (List.mem_of_getElem? (i := 314) (by decide +kernel)) rfl, ⟨tyX4, tyX4_ok⟩, nmX4, rfl, rfl, by decide +kernel⟩
theorem pf_RX4_27 : PF RX4 27 3 8 (.array .int) := ⟨_, _, _, rfl, gt_RX4, by decide, by decide, by decide, gt_of (List.mem_of_getElem? (i := 316) (by decide +kernel)) rfl, ⟨tyX4, tyX4_ok⟩, nmX4, rfl, rfl, by decide +kernel⟩
theorem pf_RX4_30 : PF RX4 30 3 9 (.array .int) := ⟨_, _, _, rfl, gt_RX4, by decide, by decide, by decide, gt_of (List.mem_of_getElem? (i := 318) (by decide +kernel)) rfl, ⟨tyX4, tyX4_ok⟩, nmX4, rfl, rfl, by decide +kernel⟩
theorem pf_RX4_33 : PF RX4 33 3 10 (.array .int) := ⟨_, _, _, rfl, gt_RX4, by decide, by decide, by decide, gt_of (List.mem_of_getElem? (i := 321) (by decide +kernel)) rfl, ⟨tyX4, tyX4_ok⟩, nmX4, rfl, rfl, by decide +kernel⟩
theorem pf_RX4_36 : PF RX4 36 3 11 (.array .int) := ⟨_, _, _, rfl, gt_RX4, by decide, by decide, by decide, gt_of (List.mem_of_getElem? (i := 324) (by decide +kernel)) rfl, ⟨tyX4, tyX4_ok⟩, nmX4, rfl, rfl, by decide +kernel⟩
theorem pf_RX4_39 : PF RX4 39 3 12 (.array .int) := ⟨_, _, _, rfl, gt_RX4, by decide, by decide, by decide, gt_of (List.mem_of_getElem? (i := 326) (by decide +kernel)) rfl, ⟨tyX4, tyX4_ok⟩, nmX4, rfl, rfl, by decide +kernel⟩
theorem pf_RX4_42 : PF RX4 42 3 13 (.array .int) := ⟨_, _, _, rfl, gt_RX4, by decide, by decide, by decide, gt_of (List.mem_of_getElem? (i := 330) (by decide +kernel)) rfl, ⟨tyX4, tyX4_ok⟩, nmX4, rfl, rfl, by decide +kernel⟩
theorem pf_RX4_45 : PF RX4 45 3 14 (.array .int) := ⟨_, _, _, rfl, gt_RX4, by decide, by decide, by decide, gt_of (List.mem_of_getElem? (i := 332) (by decide +kernel)) rfl, ⟨tyX4, tyX4_ok⟩, nmX4, rfl, rfl, by decide +kernel⟩
theorem pf_RX4_48 : PF RX4 48 3 15 (.array .int) := ⟨_, _, _, rfl, gt_RX4, by decide, by decide, by decide, gt_of (List.mem_of_getElem? (i := 334) (by decide +kernel)) rfl, ⟨tyX4, tyX4_ok⟩, nmX4, rfl, rfl, by decide +kernel⟩
theorem pf_RX4_9 : PF RX4 9 3 3 (.array .int) := ⟨_, _, _, rfl, gt_RX4, by decide, by decide, by decide, gt_of (List.mem_of_getElem? (i := 301) (by decide +kernel)) rfl, ⟨tyX4, tyX4_ok⟩, nmX4, rfl, rfl, by decide +kernel⟩
theorem pf_RX5_15 : PF RX5 15 4 0 (.object "ParitySpread$State") := ⟨_, _, _, rfl, gt_RX5, by decide, by decide, by decide, gt_of (List.mem_of_getElem? (i := 415) (by decide +kernel)) rfl, ⟨tyX5, tyX5_ok⟩, nmX5, rfl, rfl, by decide +kernel⟩
theorem pf_RX5_19 : PF RX5 19 4 1 (.object "ParitySpread$Layout") := ⟨_, _, _, rfl, gt_RX5, by decide, by decide, by decide, gt_of (List.mem_of_getElem? (i := 416) (by decide +kernel)) rfl, ⟨tyX5, tyX5_ok⟩, nmX5, rfl, rfl, by decide +kernel⟩
theorem pf_RX5_9 : PF RX5 9 4 2 (.array .int) := ⟨_, _, _, rfl, gt_RX5, by decide, by decide, by decide, gt_of (List.mem_of_getElem? (i := 417) (by decide +kernel)) rfl, ⟨tyX5, tyX5_ok⟩, nmX5, rfl, rfl, by decide +kernel⟩
theorem pf_RX6_15 : PF RX6 15 5 3 (.array .int) := ⟨_, _, _, rfl, gt_RX6, by decide, by decide, by decide, gt_of (List.mem_of_getElem? (i := 381) (by decide +kernel)) rfl, ⟨tyX6, tyX6_ok⟩, nmX6, rfl, rfl, by decide +kernel⟩
theorem pf_RX6_18 : PF RX6 18 5 4 (.array .int) := ⟨_, _, _, rfl, gt_RX6, by decide, by decide, by decide, gt_of (List.mem_of_getElem? (i := 382) (by decide +kernel)) rfl, ⟨tyX6, tyX6_ok⟩, nmX6, rfl, rfl, by decide +kernel⟩
theorem pf_RX6_21 : PF RX6 21 5 6 (.array .int) := ⟨_, _, _, rfl, gt_RX6, by decide, by decide, by decide, gt_of (List.mem_of_getElem? (i := 387) (by decide +kernel)) rfl, ⟨tyX6, tyX6_ok⟩, nmX6, rfl, rfl, by decide +kernel⟩
theorem pf_RX6_24 : PF RX6 24 5 0 (.object "ParitySpread$Layout") := ⟨_, _, _, rfl, gt_RX6, by decide, by decide, by decide, gt_of (List.mem_of_getElem? (i := 375) (by decide +kernel)) rfl, ⟨tyX6, tyX6_ok⟩, nmX6, rfl, rfl, by decide +kernel⟩
theorem pf_RX6_9 : PF RX6 9 5 2 (.array .int) := ⟨_, _, _, rfl, gt_RX6, by decide, by decide, by decide, gt_of (List.mem_of_getElem? (i := 378) (by decide +kernel)) rfl, ⟨tyX6, tyX6_ok⟩, nmX6, rfl, rfl, by decide +kernel⟩
theorem pf_RX7_9 : PF RX7 9 6 0 (.array .char) := ⟨_, _, _, rfl, gt_RX7, by decide, by decide, by decide, gt_of (List.mem_of_getElem? (i := 151) (by decide +kernel)) rfl, ⟨tyX7, tyX7_ok⟩, nmX7, rfl, rfl, by decide +kernel⟩
theorem pf_RX8_15 : PF RX8 15 7 4 (.array .int) := ⟨_, _, _, rfl, gt_RX8, by decide, by decide, by decide, gt_of (List.mem_of_getElem? (i := 235) (by decide +kernel)) rfl, ⟨tyX8, tyX8_ok⟩, nmX8, rfl, rfl, by decide +kernel⟩
theorem pf_RX8_18 : PF RX8 18 7 5 (.array .int) := ⟨_, _, _, rfl, gt_RX8, by decide, by decide, by decide, gt_of (List.mem_of_getElem? (i := 238) (by decide +kernel)) rfl, ⟨tyX8, tyX8_ok⟩, nmX8, rfl, rfl, by decide +kernel⟩
theorem pf_RX8_24 : PF RX8 24 7 6 (.object "ParitySpread$Law") := ⟨_, _, _, rfl, gt_RX8, by decide, by decide, by decide, gt_of (List.mem_of_getElem? (i := 240) (by decide +kernel)) rfl, ⟨tyX8, tyX8_ok⟩, nmX8, rfl, rfl, by decide +kernel⟩
theorem pf_RX8_9 : PF RX8 9 7 3 (.array .int) := ⟨_, _, _, rfl, gt_RX8, by decide, by decide, by decide, gt_of (List.mem_of_getElem? (i := 232) (by decide +kernel)) rfl, ⟨tyX8, tyX8_ok⟩, nmX8, rfl, rfl, by decide +kernel⟩
theorem pf_RX9_15 : PF RX9 15 8 2 (.array .int) := ⟨_, _, _, rfl, gt_RX9, by decide, by decide, by decide, gt_of (List.mem_of_getElem? (i := 267) (by decide +kernel)) rfl, ⟨tyX9, tyX9_ok⟩, nmX9, rfl, rfl, by decide +kernel⟩
theorem pf_RX9_18 : PF RX9 18 8 3 (.array .int) := ⟨_, _, _, rfl, gt_RX9, by decide, by decide, by decide, gt_of (List.mem_of_getElem? (i := 269) (by decide +kernel)) rfl, ⟨tyX9, tyX9_ok⟩, nmX9, rfl, rfl, by decide +kernel⟩
theorem pf_RX9_21 : PF RX9 21 8 0 (.object "ParitySpread$Tape") := ⟨_, _, _, rfl, gt_RX9, by decide, by decide, by decide, gt_of (List.mem_of_getElem? (i := 264) (by decide +kernel)) rfl, ⟨tyX9, tyX9_ok⟩, nmX9, rfl, rfl, by decide +kernel⟩
theorem pf_RX9_9 : PF RX9 9 8 1 (.array .int) := ⟨_, _, _, rfl, gt_RX9, by decide, by decide, by decide, gt_of (List.mem_of_getElem? (i := 265) (by decide +kernel)) rfl, ⟨tyX9, tyX9_ok⟩, nmX9, rfl, rfl, by decide +kernel⟩
