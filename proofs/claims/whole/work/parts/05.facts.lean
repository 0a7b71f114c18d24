theorem inX0 : ∀ w ∈ u_ws RX0 TX0 4, w ∈ lw_good := fun w hw => lg_in (goodIn_r (big := lw_tbl) (u_ws RX0 TX0 4) [308, 310, 312, 314] (by decide +kernel) (by decide +kernel) w hw).1 (List.all_eq_true.mp (by decide +kernel : (u_ws RX0 TX0 4).all goodWord = true) w hw)
theorem inX1 : ∀ w ∈ u_ws RX1 TX1 4, w ∈ lw_good := fun w hw => lg_in (goodIn_r (big := lw_tbl) (u_ws RX1 TX1 4) [187, 189, 191, 193] (by decide +kernel) (by decide +kernel) w hw).1 (List.all_eq_true.mp (by decide +kernel : (u_ws RX1 TX1 4).all goodWord = true) w hw)
theorem inX2 : ∀ w ∈ u_ws RX2 TX2 3, w ∈ lw_good := fun w hw => lg_in (goodIn_r (big := lw_tbl) (u_ws RX2 TX2 3) [287, 289, 291] (by decide +kernel) (by decide +kernel) w hw).1 (List.all_eq_true.mp (by decide +kernel : (u_ws RX2 TX2 3).all goodWord = true) w hw)
theorem inX3 : ∀ w ∈ u_ws RX3 TX3 9, w ∈ lw_good := fun w hw => lg_in (goodIn_r (big := lw_tbl) (u_ws RX3 TX3 9) [154, 156, 158, 160, 162, 164, 166, 168, 170] (by decide +kernel) (by decide +kernel) w hw).1 (List.all_eq_true.mp (by decide +kernel : (u_ws RX3 TX3 9).all goodWord = true) w hw)
theorem inX4 : ∀ w ∈ u_ws RX4 TX4 4, w ∈ lw_good := fun w hw => lg_in (goodIn_r (big := lw_tbl) (u_ws RX4 TX4 4) [213, 215, 217, 219] (by decide +kernel) (by decide +kernel) w hw).1 (List.all_eq_true.mp (by decide +kernel : (u_ws RX4 TX4 4).all goodWord = true) w hw)
theorem inX5 : ∀ w ∈ u_ws RX5 TX5 4, w ∈ lw_good := fun w hw => lg_in (goodIn_r (big := lw_tbl) (u_ws RX5 TX5 4) [332, 334, 336, 338] (by decide +kernel) (by decide +kernel) w hw).1 (List.all_eq_true.mp (by decide +kernel : (u_ws RX5 TX5 4).all goodWord = true) w hw)
theorem inX6 : ∀ w ∈ u_ws RX6 TX6 2, w ∈ lw_good := fun w hw => lg_in (goodIn_r (big := lw_tbl) (u_ws RX6 TX6 2) [119, 121] (by decide +kernel) (by decide +kernel) w hw).1 (List.all_eq_true.mp (by decide +kernel : (u_ws RX6 TX6 2).all goodWord = true) w hw)
theorem inX7 : ∀ w ∈ u_ws RX7 TX7 13, w ∈ lw_good := fun w hw => lg_in (goodIn_r (big := lw_tbl) (u_ws RX7 TX7 13) [247, 249, 251, 253, 255, 257, 259, 261, 263, 265, 267, 269, 271] (by decide +kernel) (by decide +kernel) w hw).1 (List.all_eq_true.mp (by decide +kernel : (u_ws RX7 TX7 13).all goodWord = true) w hw)
theorem inX8 : ∀ w ∈ u_ws RX8 TX8 14, w ∈ lw_good := fun w hw => lg_in (goodIn_r (big := lw_tbl) (u_ws RX8 TX8 14) [355, 357, 359, 361, 363, 365, 367, 369, 371, 373, 375, 377, 379, 381] (by decide +kernel) (by decide +kernel) w hw).1 (List.all_eq_true.mp (by decide +kernel : (u_ws RX8 TX8 14).all goodWord = true) w hw)
theorem inX9 : ∀ w ∈ u_ws RX9 TX9 25, w ∈ lw_good := fun w hw => lg_in (goodIn_r (big := lw_tbl) (u_ws RX9 TX9 25) [812, 814, 816, 818, 820, 822, 824, 826, 828, 830, 832, 834, 836, 838, 840, 842, 844, 846, 848, 850, 852, 854, 856, 858, 860] (by decide +kernel) (by decide +kernel) w hw).1 (List.all_eq_true.mp (by decide +kernel : (u_ws RX9 TX9 25).all goodWord = true) w hw)
theorem mw_0 : Cond.fieldLink RX0 9 "HedgehogBorder$Chances" "shares" "[J" ∈ lw_tbl := List.mem_of_getElem? (i := 300) (by decide +kernel)
theorem fg_X0_9 : FG RX0 9 0 0 := ⟨_, _, _, rfl, Nat.le_of_ble_eq_true rfl, inX0, Or.inl (lg_in mw_0 rfl)⟩
theorem ft_X0_0 : FT 0 0 (.array .long) true := ⟨_, _, _, tyX0, rfl, tyX0_ok, nmX0, rfl, by decide +kernel, rfl⟩
theorem mw_1 : Cond.fieldLink RX0 15 "HedgehogBorder$Chances" "whole" "J" ∈ lw_tbl := List.mem_of_getElem? (i := 302) (by decide +kernel)
theorem fg_X0_15 : FG RX0 15 0 1 := ⟨_, _, _, rfl, Nat.le_of_ble_eq_true rfl, inX0, Or.inl (lg_in mw_1 rfl)⟩
theorem ft_X0_1 : FT 0 1 .long false := ⟨_, _, _, tyX0, rfl, tyX0_ok, nmX0, rfl, by decide +kernel, rfl⟩
theorem mw_2 : Cond.fieldLink RX0 19 "HedgehogBorder$Chances" "above" "J" ∈ lw_tbl := List.mem_of_getElem? (i := 304) (by decide +kernel)
theorem fg_X0_19 : FG RX0 19 0 2 := ⟨_, _, _, rfl, Nat.le_of_ble_eq_true rfl, inX0, Or.inl (lg_in mw_2 rfl)⟩
theorem ft_X0_2 : FT 0 2 .long false := ⟨_, _, _, tyX0, rfl, tyX0_ok, nmX0, rfl, by decide +kernel, rfl⟩
theorem mw_3 : Cond.fieldLink RX0 22 "HedgehogBorder$Chances" "below" "J" ∈ lw_tbl := List.mem_of_getElem? (i := 306) (by decide +kernel)
theorem fg_X0_22 : FG RX0 22 0 3 := ⟨_, _, _, rfl, Nat.le_of_ble_eq_true rfl, inX0, Or.inl (lg_in mw_3 rfl)⟩
theorem ft_X0_3 : FT 0 3 .long false := ⟨_, _, _, tyX0, rfl, tyX0_ok, nmX0, rfl, by decide +kernel, rfl⟩
theorem mw_4 : Cond.constantLong RX0 25 2 ∈ lw_tbl := List.mem_of_getElem? (i := 683) (by decide +kernel)
theorem mw_5 : Cond.fieldLink RX1 9 "HedgehogBorder$Houses" "places" "[I" ∈ lw_tbl := List.mem_of_getElem? (i := 179) (by decide +kernel)
theorem fg_X1_9 : FG RX1 9 1 0 := ⟨_, _, _, rfl, Nat.le_of_ble_eq_true rfl, inX1, Or.inl (lg_in mw_5 rfl)⟩
theorem ft_X1_0 : FT 1 0 (.array .int) true := ⟨_, _, _, tyX1, rfl, tyX1_ok, nmX1, rfl, by decide +kernel, rfl⟩
theorem mw_6 : Cond.fieldLink RX1 15 "HedgehogBorder$Houses" "dues" "[I" ∈ lw_tbl := List.mem_of_getElem? (i := 181) (by decide +kernel)
theorem fg_X1_15 : FG RX1 15 1 1 := ⟨_, _, _, rfl, Nat.le_of_ble_eq_true rfl, inX1, Or.inl (lg_in mw_6 rfl)⟩
theorem ft_X1_1 : FT 1 1 (.array .int) true := ⟨_, _, _, tyX1, rfl, tyX1_ok, nmX1, rfl, by decide +kernel, rfl⟩
theorem mw_7 : Cond.fieldLink RX1 18 "HedgehogBorder$Houses" "flaw" "I" ∈ lw_tbl := List.mem_of_getElem? (i := 183) (by decide +kernel)
theorem fg_X1_18 : FG RX1 18 1 2 := ⟨_, _, _, rfl, Nat.le_of_ble_eq_true rfl, inX1, Or.inl (lg_in mw_7 rfl)⟩
theorem ft_X1_2 : FT 1 2 .int false := ⟨_, _, _, tyX1, rfl, tyX1_ok, nmX1, rfl, by decide +kernel, rfl⟩
theorem mw_8 : Cond.fieldLink RX1 22 "HedgehogBorder$Houses" "number" "I" ∈ lw_tbl := List.mem_of_getElem? (i := 185) (by decide +kernel)
theorem fg_X1_22 : FG RX1 22 1 3 := ⟨_, _, _, rfl, Nat.le_of_ble_eq_true rfl, inX1, Or.inl (lg_in mw_8 rfl)⟩
theorem ft_X1_3 : FT 1 3 .int false := ⟨_, _, _, tyX1, rfl, tyX1_ok, nmX1, rfl, by decide +kernel, rfl⟩
theorem mw_9 : Cond.code yX1_findFlaw cX1_findFlaw 2 (some .int) ∈ lw_tbl := List.mem_of_getElem? (i := 432) (by decide +kernel)
theorem mw_10 : Cond.initialized RX1 ∈ lw_tbl := List.mem_of_getElem? (i := 85) (by decide +kernel)
theorem mw_11 : Cond.methodLink RX1 25 yX1_findFlaw ∈ lw_tbl := List.mem_of_getElem? (i := 430) (by decide +kernel)
theorem mw_12 : Cond.static yX1_findFlaw ∈ lw_tbl := List.mem_of_getElem? (i := 431) (by decide +kernel)
theorem mf_X1_25 : MFs RX1 25 yX1_findFlaw cX1_findFlaw 2 (some .int) 1 := ⟨⟨lg_in mw_9 rfl, lg_in mw_10 rfl, by decide +kernel, Or.inl (lg_in mw_11 rfl)⟩, lg_in mw_12 rfl⟩
theorem mw_13 : Cond.fieldLinkNest RX1 29 "HedgehogBorder$Text" "length" "I" "HedgehogBorder" ∈ lw_tbl := List.mem_of_getElem? (i := 117) (by decide +kernel)
theorem fg_X1_29 : FG RX1 29 6 1 := ⟨_, _, _, rfl, Nat.le_of_ble_eq_true rfl, inX6, Or.inr ⟨_, mw_13⟩⟩
theorem mw_14 : Cond.fieldLinkNest RX1 34 "HedgehogBorder$Text" "bytes" "[I" "HedgehogBorder" ∈ lw_tbl := List.mem_of_getElem? (i := 113) (by decide +kernel)
theorem fg_X1_34 : FG RX1 34 6 0 := ⟨_, _, _, rfl, Nat.le_of_ble_eq_true rfl, inX6, Or.inr ⟨_, mw_14⟩⟩
theorem mw_15 : Cond.code yX1_fits cX1_fits 2 (some .boolean) ∈ lw_tbl := List.mem_of_getElem? (i := 435) (by decide +kernel)
theorem mw_16 : Cond.methodLink RX1 37 yX1_fits ∈ lw_tbl := List.mem_of_getElem? (i := 433) (by decide +kernel)
theorem mw_17 : Cond.static yX1_fits ∈ lw_tbl := List.mem_of_getElem? (i := 434) (by decide +kernel)
theorem mf_X1_37 : MFs RX1 37 yX1_fits cX1_fits 2 (some .boolean) 2 := ⟨⟨lg_in mw_15 rfl, lg_in mw_10 rfl, by decide +kernel, Or.inl (lg_in mw_16 rfl)⟩, lg_in mw_17 rfl⟩
theorem mw_18 : Cond.fieldLink RX2 9 "HedgehogBorder$Laid" "number" "I" ∈ lw_tbl := List.mem_of_getElem? (i := 281) (by decide +kernel)
theorem fg_X2_9 : FG RX2 9 2 0 := ⟨_, _, _, rfl, Nat.le_of_ble_eq_true rfl, inX2, Or.inl (lg_in mw_18 rfl)⟩
theorem ft_X2_0 : FT 2 0 .int false := ⟨_, _, _, tyX2, rfl, tyX2_ok, nmX2, rfl, by decide +kernel, rfl⟩
theorem mw_19 : Cond.fieldLink RX2 15 "HedgehogBorder$Laid" "one" "I" ∈ lw_tbl := List.mem_of_getElem? (i := 283) (by decide +kernel)
theorem fg_X2_15 : FG RX2 15 2 1 := ⟨_, _, _, rfl, Nat.le_of_ble_eq_true rfl, inX2, Or.inl (lg_in mw_19 rfl)⟩
theorem ft_X2_1 : FT 2 1 .int false := ⟨_, _, _, tyX2, rfl, tyX2_ok, nmX2, rfl, by decide +kernel, rfl⟩
theorem mw_20 : Cond.fieldLink RX2 18 "HedgehogBorder$Laid" "two" "I" ∈ lw_tbl := List.mem_of_getElem? (i := 285) (by decide +kernel)
theorem fg_X2_18 : FG RX2 18 2 2 := ⟨_, _, _, rfl, Nat.le_of_ble_eq_true rfl, inX2, Or.inl (lg_in mw_20 rfl)⟩
theorem ft_X2_2 : FT 2 2 .int false := ⟨_, _, _, tyX2, rfl, tyX2_ok, nmX2, rfl, by decide +kernel, rfl⟩
theorem mw_21 : Cond.fieldLink RX3 9 "HedgehogBorder$Land" "kinds" "[I" ∈ lw_tbl := List.mem_of_getElem? (i := 131) (by decide +kernel)
theorem fg_X3_9 : FG RX3 9 3 0 := ⟨_, _, _, rfl, Nat.le_of_ble_eq_true rfl, inX3, Or.inl (lg_in mw_21 rfl)⟩
theorem ft_X3_0 : FT 3 0 (.array .int) true := ⟨_, _, _, tyX3, rfl, tyX3_ok, nmX3, rfl, by decide +kernel, rfl⟩
theorem mw_22 : Cond.fieldLink RX3 15 "HedgehogBorder$Land" "rowAt" "[I" ∈ lw_tbl := List.mem_of_getElem? (i := 134) (by decide +kernel)
theorem fg_X3_15 : FG RX3 15 3 1 := ⟨_, _, _, rfl, Nat.le_of_ble_eq_true rfl, inX3, Or.inl (lg_in mw_22 rfl)⟩
theorem ft_X3_1 : FT 3 1 (.array .int) true := ⟨_, _, _, tyX3, rfl, tyX3_ok, nmX3, rfl, by decide +kernel, rfl⟩
theorem mw_23 : Cond.fieldLink RX3 18 "HedgehogBorder$Land" "columnAt" "[I" ∈ lw_tbl := List.mem_of_getElem? (i := 136) (by decide +kernel)
theorem fg_X3_18 : FG RX3 18 3 2 := ⟨_, _, _, rfl, Nat.le_of_ble_eq_true rfl, inX3, Or.inl (lg_in mw_23 rfl)⟩
theorem ft_X3_2 : FT 3 2 (.array .int) true := ⟨_, _, _, tyX3, rfl, tyX3_ok, nmX3, rfl, by decide +kernel, rfl⟩
theorem mw_24 : Cond.fieldLink RX3 21 "HedgehogBorder$Land" "ways" "[I" ∈ lw_tbl := List.mem_of_getElem? (i := 138) (by decide +kernel)
theorem fg_X3_21 : FG RX3 21 3 3 := ⟨_, _, _, rfl, Nat.le_of_ble_eq_true rfl, inX3, Or.inl (lg_in mw_24 rfl)⟩
theorem ft_X3_3 : FT 3 3 (.array .int) true := ⟨_, _, _, tyX3, rfl, tyX3_ok, nmX3, rfl, by decide +kernel, rfl⟩
theorem mw_25 : Cond.fieldLink RX3 24 "HedgehogBorder$Land" "beside" "[I" ∈ lw_tbl := List.mem_of_getElem? (i := 141) (by decide +kernel)
theorem fg_X3_24 : FG RX3 24 3 4 := ⟨_, _, _, rfl, Nat.le_of_ble_eq_true rfl, inX3, Or.inl (lg_in mw_25 rfl)⟩
theorem ft_X3_4 : FT 3 4 (.array .int) true := ⟨_, _, _, tyX3, rfl, tyX3_ok, nmX3, rfl, by decide +kernel, rfl⟩
theorem mw_26 : Cond.fieldLink RX3 27 "HedgehogBorder$Land" "flaw" "I" ∈ lw_tbl := List.mem_of_getElem? (i := 144) (by decide +kernel)
theorem fg_X3_27 : FG RX3 27 3 5 := ⟨_, _, _, rfl, Nat.le_of_ble_eq_true rfl, inX3, Or.inl (lg_in mw_26 rfl)⟩
theorem ft_X3_5 : FT 3 5 .int false := ⟨_, _, _, tyX3, rfl, tyX3_ok, nmX3, rfl, by decide +kernel, rfl⟩
theorem mw_27 : Cond.fieldLink RX3 31 "HedgehogBorder$Land" "cells" "I" ∈ lw_tbl := List.mem_of_getElem? (i := 146) (by decide +kernel)
theorem fg_X3_31 : FG RX3 31 3 6 := ⟨_, _, _, rfl, Nat.le_of_ble_eq_true rfl, inX3, Or.inl (lg_in mw_27 rfl)⟩
theorem ft_X3_6 : FT 3 6 .int false := ⟨_, _, _, tyX3, rfl, tyX3_ok, nmX3, rfl, by decide +kernel, rfl⟩
theorem mw_28 : Cond.fieldLink RX3 34 "HedgehogBorder$Land" "columns" "I" ∈ lw_tbl := List.mem_of_getElem? (i := 149) (by decide +kernel)
theorem fg_X3_34 : FG RX3 34 3 7 := ⟨_, _, _, rfl, Nat.le_of_ble_eq_true rfl, inX3, Or.inl (lg_in mw_28 rfl)⟩
theorem ft_X3_7 : FT 3 7 .int false := ⟨_, _, _, tyX3, rfl, tyX3_ok, nmX3, rfl, by decide +kernel, rfl⟩
theorem mw_29 : Cond.fieldLink RX3 37 "HedgehogBorder$Land" "rows" "I" ∈ lw_tbl := List.mem_of_getElem? (i := 152) (by decide +kernel)
theorem fg_X3_37 : FG RX3 37 3 8 := ⟨_, _, _, rfl, Nat.le_of_ble_eq_true rfl, inX3, Or.inl (lg_in mw_29 rfl)⟩
theorem ft_X3_8 : FT 3 8 .int false := ⟨_, _, _, tyX3, rfl, tyX3_ok, nmX3, rfl, by decide +kernel, rfl⟩
theorem mw_30 : Cond.code yX3_becomeEmpty cX3_becomeEmpty 1 none ∈ lw_tbl := List.mem_of_getElem? (i := 406) (by decide +kernel)
theorem mw_31 : Cond.initialized RX3 ∈ lw_tbl := List.mem_of_getElem? (i := 84) (by decide +kernel)
theorem mw_32 : Cond.methodLink RX3 40 yX3_becomeEmpty ∈ lw_tbl := List.mem_of_getElem? (i := 403) (by decide +kernel)
theorem mw_33 : Cond.instanceMethod yX3_becomeEmpty ∈ lw_tbl := List.mem_of_getElem? (i := 405) (by decide +kernel)
theorem mw_34 : Cond.selects RX3 yX3_becomeEmpty yX3_becomeEmpty ∈ lw_tbl := List.mem_of_getElem? (i := 3) (by decide +kernel)
theorem mf_X3_40 : MFv RX3 40 yX3_becomeEmpty cX3_becomeEmpty 1 none 0 := ⟨⟨lg_in mw_30 rfl, lg_in mw_31 rfl, by decide +kernel, Or.inl (lg_in mw_32 rfl)⟩, lg_in mw_33 rfl, lg_in mw_34 rfl⟩
theorem mw_35 : Cond.fieldLinkNest RX3 43 "HedgehogBorder$Text" "length" "I" "HedgehogBorder" ∈ lw_tbl := List.mem_of_getElem? (i := 116) (by decide +kernel)
theorem fg_X3_43 : FG RX3 43 6 1 := ⟨_, _, _, rfl, Nat.le_of_ble_eq_true rfl, inX6, Or.inr ⟨_, mw_35⟩⟩
theorem mw_36 : Cond.code yX3_gather cX3_gather 7 (some .int) ∈ lw_tbl := List.mem_of_getElem? (i := 410) (by decide +kernel)
theorem mw_37 : Cond.methodLink RX3 48 yX3_gather ∈ lw_tbl := List.mem_of_getElem? (i := 407) (by decide +kernel)
theorem mw_38 : Cond.instanceMethod yX3_gather ∈ lw_tbl := List.mem_of_getElem? (i := 409) (by decide +kernel)
theorem mw_39 : Cond.selects RX3 yX3_gather yX3_gather ∈ lw_tbl := List.mem_of_getElem? (i := 4) (by decide +kernel)
theorem mf_X3_48 : MFv RX3 48 yX3_gather cX3_gather 7 (some .int) 1 := ⟨⟨lg_in mw_36 rfl, lg_in mw_31 rfl, by decide +kernel, Or.inl (lg_in mw_37 rfl)⟩, lg_in mw_38 rfl, lg_in mw_39 rfl⟩
theorem mw_40 : Cond.code yX3_findWays cX3_findWays 2 none ∈ lw_tbl := List.mem_of_getElem? (i := 421) (by decide +kernel)
theorem mw_41 : Cond.methodLink RX3 52 yX3_findWays ∈ lw_tbl := List.mem_of_getElem? (i := 418) (by decide +kernel)
theorem mw_42 : Cond.instanceMethod yX3_findWays ∈ lw_tbl := List.mem_of_getElem? (i := 420) (by decide +kernel)
theorem mw_43 : Cond.selects RX3 yX3_findWays yX3_findWays ∈ lw_tbl := List.mem_of_getElem? (i := 6) (by decide +kernel)
theorem mf_X3_52 : MFv RX3 52 yX3_findWays cX3_findWays 2 none 1 := ⟨⟨lg_in mw_40 rfl, lg_in mw_31 rfl, by decide +kernel, Or.inl (lg_in mw_41 rfl)⟩, lg_in mw_42 rfl, lg_in mw_43 rfl⟩
theorem mw_44 : Cond.fieldLinkNest RX3 56 "HedgehogBorder$Text" "bytes" "[I" "HedgehogBorder" ∈ lw_tbl := List.mem_of_getElem? (i := 114) (by decide +kernel)
theorem fg_X3_56 : FG RX3 56 6 0 := ⟨_, _, _, rfl, Nat.le_of_ble_eq_true rfl, inX6, Or.inr ⟨_, mw_44⟩⟩
theorem mw_45 : Cond.code yX3_endRow cX3_endRow 2 none ∈ lw_tbl := List.mem_of_getElem? (i := 414) (by decide +kernel)
theorem mw_46 : Cond.methodLink RX3 59 yX3_endRow ∈ lw_tbl := List.mem_of_getElem? (i := 411) (by decide +kernel)
theorem mw_47 : Cond.instanceMethod yX3_endRow ∈ lw_tbl := List.mem_of_getElem? (i := 413) (by decide +kernel)
theorem mw_48 : Cond.selects RX3 yX3_endRow yX3_endRow ∈ lw_tbl := List.mem_of_getElem? (i := 5) (by decide +kernel)
theorem mf_X3_59 : MFv RX3 59 yX3_endRow cX3_endRow 2 none 1 := ⟨⟨lg_in mw_45 rfl, lg_in mw_31 rfl, by decide +kernel, Or.inl (lg_in mw_46 rfl)⟩, lg_in mw_47 rfl, lg_in mw_48 rfl⟩
theorem mw_49 : Cond.code yX3_kindOf cX3_kindOf 1 (some .int) ∈ lw_tbl := List.mem_of_getElem? (i := 417) (by decide +kernel)
theorem mw_50 : Cond.methodLink RX3 62 yX3_kindOf ∈ lw_tbl := List.mem_of_getElem? (i := 415) (by decide +kernel)
theorem mw_51 : Cond.static yX3_kindOf ∈ lw_tbl := List.mem_of_getElem? (i := 416) (by decide +kernel)
theorem mf_X3_62 : MFs RX3 62 yX3_kindOf cX3_kindOf 1 (some .int) 1 := ⟨⟨lg_in mw_49 rfl, lg_in mw_31 rfl, by decide +kernel, Or.inl (lg_in mw_50 rfl)⟩, lg_in mw_51 rfl⟩
theorem mw_52 : Cond.code yX3_openWay cX3_openWay 3 none ∈ lw_tbl := List.mem_of_getElem? (i := 425) (by decide +kernel)
theorem mw_53 : Cond.methodLink RX3 66 yX3_openWay ∈ lw_tbl := List.mem_of_getElem? (i := 422) (by decide +kernel)
theorem mw_54 : Cond.instanceMethod yX3_openWay ∈ lw_tbl := List.mem_of_getElem? (i := 424) (by decide +kernel)
theorem mw_55 : Cond.selects RX3 yX3_openWay yX3_openWay ∈ lw_tbl := List.mem_of_getElem? (i := 7) (by decide +kernel)
theorem mf_X3_66 : MFv RX3 66 yX3_openWay cX3_openWay 3 none 2 := ⟨⟨lg_in mw_52 rfl, lg_in mw_31 rfl, by decide +kernel, Or.inl (lg_in mw_53 rfl)⟩, lg_in mw_54 rfl, lg_in mw_55 rfl⟩
theorem mw_56 : Cond.fieldLink RX4 9 "HedgehogBorder$Marks" "nights" "[I" ∈ lw_tbl := List.mem_of_getElem? (i := 202) (by decide +kernel)
theorem fg_X4_9 : FG RX4 9 4 0 := ⟨_, _, _, rfl, Nat.le_of_ble_eq_true rfl, inX4, Or.inl (lg_in mw_56 rfl)⟩
theorem ft_X4_0 : FT 4 0 (.array .int) true := ⟨_, _, _, tyX4, rfl, tyX4_ok, nmX4, rfl, by decide +kernel, rfl⟩
theorem mw_57 : Cond.fieldLink RX4 15 "HedgehogBorder$Marks" "things" "[I" ∈ lw_tbl := List.mem_of_getElem? (i := 205) (by decide +kernel)
theorem fg_X4_15 : FG RX4 15 4 1 := ⟨_, _, _, rfl, Nat.le_of_ble_eq_true rfl, inX4, Or.inl (lg_in mw_57 rfl)⟩
theorem ft_X4_1 : FT 4 1 (.array .int) true := ⟨_, _, _, tyX4, rfl, tyX4_ok, nmX4, rfl, by decide +kernel, rfl⟩
theorem mw_58 : Cond.fieldLink RX4 18 "HedgehogBorder$Marks" "realms" "[I" ∈ lw_tbl := List.mem_of_getElem? (i := 208) (by decide +kernel)
theorem fg_X4_18 : FG RX4 18 4 2 := ⟨_, _, _, rfl, Nat.le_of_ble_eq_true rfl, inX4, Or.inl (lg_in mw_58 rfl)⟩
theorem ft_X4_2 : FT 4 2 (.array .int) true := ⟨_, _, _, tyX4, rfl, tyX4_ok, nmX4, rfl, by decide +kernel, rfl⟩
theorem mw_59 : Cond.fieldLink RX4 21 "HedgehogBorder$Marks" "number" "I" ∈ lw_tbl := List.mem_of_getElem? (i := 210) (by decide +kernel)
theorem fg_X4_21 : FG RX4 21 4 3 := ⟨_, _, _, rfl, Nat.le_of_ble_eq_true rfl, inX4, Or.inl (lg_in mw_59 rfl)⟩
theorem ft_X4_3 : FT 4 3 .int false := ⟨_, _, _, tyX4, rfl, tyX4_ok, nmX4, rfl, by decide +kernel, rfl⟩
theorem mw_60 : Cond.fieldLink RX5 9 "HedgehogBorder$Sheet" "items" "[I" ∈ lw_tbl := List.mem_of_getElem? (i := 324) (by decide +kernel)
theorem fg_X5_9 : FG RX5 9 5 0 := ⟨_, _, _, rfl, Nat.le_of_ble_eq_true rfl, inX5, Or.inl (lg_in mw_60 rfl)⟩
theorem ft_X5_0 : FT 5 0 (.array .int) true := ⟨_, _, _, tyX5, rfl, tyX5_ok, nmX5, rfl, by decide +kernel, rfl⟩
theorem mw_61 : Cond.fieldLink RX5 15 "HedgehogBorder$Sheet" "lost" "Z" ∈ lw_tbl := List.mem_of_getElem? (i := 326) (by decide +kernel)
theorem fg_X5_15 : FG RX5 15 5 1 := ⟨_, _, _, rfl, Nat.le_of_ble_eq_true rfl, inX5, Or.inl (lg_in mw_61 rfl)⟩
theorem ft_X5_1 : FT 5 1 .boolean false := ⟨_, _, _, tyX5, rfl, tyX5_ok, nmX5, rfl, by decide +kernel, rfl⟩
theorem mw_62 : Cond.fieldLink RX5 19 "HedgehogBorder$Sheet" "form" "I" ∈ lw_tbl := List.mem_of_getElem? (i := 328) (by decide +kernel)
theorem fg_X5_19 : FG RX5 19 5 2 := ⟨_, _, _, rfl, Nat.le_of_ble_eq_true rfl, inX5, Or.inl (lg_in mw_62 rfl)⟩
theorem ft_X5_2 : FT 5 2 .int false := ⟨_, _, _, tyX5, rfl, tyX5_ok, nmX5, rfl, by decide +kernel, rfl⟩
theorem mw_63 : Cond.fieldLink RX5 23 "HedgehogBorder$Sheet" "size" "I" ∈ lw_tbl := List.mem_of_getElem? (i := 330) (by decide +kernel)
theorem fg_X5_23 : FG RX5 23 5 3 := ⟨_, _, _, rfl, Nat.le_of_ble_eq_true rfl, inX5, Or.inl (lg_in mw_63 rfl)⟩
theorem ft_X5_3 : FT 5 3 .int false := ⟨_, _, _, tyX5, rfl, tyX5_ok, nmX5, rfl, by decide +kernel, rfl⟩
theorem mw_64 : Cond.code yJ7_fill_53178 cJ7_fill_53178 4 none ∈ lw_tbl := List.mem_of_getElem? (i := 645) (by decide +kernel)
theorem mw_65 : Cond.initialized RJ7 ∈ lw_tbl := List.mem_of_getElem? (i := 93) (by decide +kernel)
theorem mw_66 : Cond.methodLink RX5 26 yJ7_fill_53178 ∈ lw_tbl := List.mem_of_getElem? (i := 704) (by decide +kernel)
theorem mw_67 : Cond.static yJ7_fill_53178 ∈ lw_tbl := List.mem_of_getElem? (i := 644) (by decide +kernel)
theorem mf_X5_26 : MFs RX5 26 yJ7_fill_53178 cJ7_fill_53178 4 none 2 := ⟨⟨lg_in mw_64 rfl, lg_in mw_65 rfl, by decide +kernel, Or.inl (lg_in mw_66 rfl)⟩, lg_in mw_67 rfl⟩
theorem mw_68 : Cond.fieldLink RX6 7 "HedgehogBorder$Text" "bytes" "[I" ∈ lw_tbl := List.mem_of_getElem? (i := 112) (by decide +kernel)
theorem fg_X6_7 : FG RX6 7 6 0 := ⟨_, _, _, rfl, Nat.le_of_ble_eq_true rfl, inX6, Or.inl (lg_in mw_68 rfl)⟩
theorem ft_X6_0 : FT 6 0 (.array .int) true := ⟨_, _, _, tyX6, rfl, tyX6_ok, nmX6, rfl, by decide +kernel, rfl⟩
theorem mw_69 : Cond.fieldLink RX6 13 "HedgehogBorder$Text" "length" "I" ∈ lw_tbl := List.mem_of_getElem? (i := 115) (by decide +kernel)
theorem fg_X6_13 : FG RX6 13 6 1 := ⟨_, _, _, rfl, Nat.le_of_ble_eq_true rfl, inX6, Or.inl (lg_in mw_69 rfl)⟩
theorem ft_X6_1 : FT 6 1 .int false := ⟨_, _, _, tyX6, rfl, tyX6_ok, nmX6, rfl, by decide +kernel, rfl⟩
theorem mw_70 : Cond.fieldLink RX7 9 "HedgehogBorder$Walker" "steady" "[I" ∈ lw_tbl := List.mem_of_getElem? (i := 231) (by decide +kernel)
theorem fg_X7_9 : FG RX7 9 7 3 := ⟨_, _, _, rfl, Nat.le_of_ble_eq_true rfl, inX7, Or.inl (lg_in mw_70 rfl)⟩
theorem ft_X7_3 : FT 7 3 (.array .int) true := ⟨_, _, _, tyX7, rfl, tyX7_ok, nmX7, rfl, by decide +kernel, rfl⟩
theorem mw_71 : Cond.fieldLink RX7 15 "HedgehogBorder$Walker" "fresh" "[I" ∈ lw_tbl := List.mem_of_getElem? (i := 232) (by decide +kernel)
theorem fg_X7_15 : FG RX7 15 7 4 := ⟨_, _, _, rfl, Nat.le_of_ble_eq_true rfl, inX7, Or.inl (lg_in mw_71 rfl)⟩
theorem ft_X7_4 : FT 7 4 (.array .int) true := ⟨_, _, _, tyX7, rfl, tyX7_ok, nmX7, rfl, by decide +kernel, rfl⟩
theorem mw_72 : Cond.fieldLink RX7 18 "HedgehogBorder$Walker" "track" "[I" ∈ lw_tbl := List.mem_of_getElem? (i := 233) (by decide +kernel)
theorem fg_X7_18 : FG RX7 18 7 5 := ⟨_, _, _, rfl, Nat.le_of_ble_eq_true rfl, inX7, Or.inl (lg_in mw_72 rfl)⟩
theorem ft_X7_5 : FT 7 5 (.array .int) true := ⟨_, _, _, tyX7, rfl, tyX7_ok, nmX7, rfl, by decide +kernel, rfl⟩
theorem mw_73 : Cond.fieldLink RX7 21 "HedgehogBorder$Walker" "gone" "[I" ∈ lw_tbl := List.mem_of_getElem? (i := 234) (by decide +kernel)
theorem fg_X7_21 : FG RX7 21 7 6 := ⟨_, _, _, rfl, Nat.le_of_ble_eq_true rfl, inX7, Or.inl (lg_in mw_73 rfl)⟩
theorem ft_X7_6 : FT 7 6 (.array .int) true := ⟨_, _, _, tyX7, rfl, tyX7_ok, nmX7, rfl, by decide +kernel, rfl⟩
theorem mw_74 : Cond.fieldLink RX7 24 "HedgehogBorder$Walker" "trodden" "[J" ∈ lw_tbl := List.mem_of_getElem? (i := 236) (by decide +kernel)
theorem fg_X7_24 : FG RX7 24 7 7 := ⟨_, _, _, rfl, Nat.le_of_ble_eq_true rfl, inX7, Or.inl (lg_in mw_74 rfl)⟩
theorem ft_X7_7 : FT 7 7 (.array .long) true := ⟨_, _, _, tyX7, rfl, tyX7_ok, nmX7, rfl, by decide +kernel, rfl⟩
theorem mw_75 : Cond.fieldLink RX7 28 "HedgehogBorder$Walker" "lines" "[I" ∈ lw_tbl := List.mem_of_getElem? (i := 237) (by decide +kernel)
theorem fg_X7_28 : FG RX7 28 7 8 := ⟨_, _, _, rfl, Nat.le_of_ble_eq_true rfl, inX7, Or.inl (lg_in mw_75 rfl)⟩
theorem ft_X7_8 : FT 7 8 (.array .int) true := ⟨_, _, _, tyX7, rfl, tyX7_ok, nmX7, rfl, by decide +kernel, rfl⟩
theorem mw_76 : Cond.fieldLink RX7 31 "HedgehogBorder$Walker" "start" "I" ∈ lw_tbl := List.mem_of_getElem? (i := 239) (by decide +kernel)
theorem fg_X7_31 : FG RX7 31 7 9 := ⟨_, _, _, rfl, Nat.le_of_ble_eq_true rfl, inX7, Or.inl (lg_in mw_76 rfl)⟩
theorem ft_X7_9 : FT 7 9 .int false := ⟨_, _, _, tyX7, rfl, tyX7_ok, nmX7, rfl, by decide +kernel, rfl⟩
theorem mw_77 : Cond.fieldLink RX7 35 "HedgehogBorder$Walker" "frost" "I" ∈ lw_tbl := List.mem_of_getElem? (i := 241) (by decide +kernel)
theorem fg_X7_35 : FG RX7 35 7 10 := ⟨_, _, _, rfl, Nat.le_of_ble_eq_true rfl, inX7, Or.inl (lg_in mw_77 rfl)⟩
theorem ft_X7_10 : FT 7 10 .int false := ⟨_, _, _, tyX7, rfl, tyX7_ok, nmX7, rfl, by decide +kernel, rfl⟩
theorem mw_78 : Cond.fieldLink RX7 38 "HedgehogBorder$Walker" "present" "I" ∈ lw_tbl := List.mem_of_getElem? (i := 243) (by decide +kernel)
theorem fg_X7_38 : FG RX7 38 7 11 := ⟨_, _, _, rfl, Nat.le_of_ble_eq_true rfl, inX7, Or.inl (lg_in mw_78 rfl)⟩
theorem ft_X7_11 : FT 7 11 .int false := ⟨_, _, _, tyX7, rfl, tyX7_ok, nmX7, rfl, by decide +kernel, rfl⟩
theorem mw_79 : Cond.fieldLink RX7 41 "HedgehogBorder$Walker" "raked" "I" ∈ lw_tbl := List.mem_of_getElem? (i := 245) (by decide +kernel)
theorem fg_X7_41 : FG RX7 41 7 12 := ⟨_, _, _, rfl, Nat.le_of_ble_eq_true rfl, inX7, Or.inl (lg_in mw_79 rfl)⟩
theorem ft_X7_12 : FT 7 12 .int false := ⟨_, _, _, tyX7, rfl, tyX7_ok, nmX7, rfl, by decide +kernel, rfl⟩
theorem mw_80 : Cond.fieldLink RX7 44 "HedgehogBorder$Walker" "land" "LHedgehogBorder$Land;" ∈ lw_tbl := List.mem_of_getElem? (i := 228) (by decide +kernel)
theorem fg_X7_44 : FG RX7 44 7 0 := ⟨_, _, _, rfl, Nat.le_of_ble_eq_true rfl, inX7, Or.inl (lg_in mw_80 rfl)⟩
theorem ft_X7_0 : FT 7 0 (.object "HedgehogBorder$Land") true := ⟨_, _, _, tyX7, rfl, tyX7_ok, nmX7, rfl, by decide +kernel, rfl⟩
theorem mw_81 : Cond.fieldLink RX7 48 "HedgehogBorder$Walker" "bowls" "LHedgehogBorder$Marks;" ∈ lw_tbl := List.mem_of_getElem? (i := 229) (by decide +kernel)
theorem fg_X7_48 : FG RX7 48 7 1 := ⟨_, _, _, rfl, Nat.le_of_ble_eq_true rfl, inX7, Or.inl (lg_in mw_81 rfl)⟩
theorem ft_X7_1 : FT 7 1 (.object "HedgehogBorder$Marks") true := ⟨_, _, _, tyX7, rfl, tyX7_ok, nmX7, rfl, by decide +kernel, rfl⟩
theorem mw_82 : Cond.fieldLink RX7 52 "HedgehogBorder$Walker" "dogs" "LHedgehogBorder$Marks;" ∈ lw_tbl := List.mem_of_getElem? (i := 230) (by decide +kernel)
theorem fg_X7_52 : FG RX7 52 7 2 := ⟨_, _, _, rfl, Nat.le_of_ble_eq_true rfl, inX7, Or.inl (lg_in mw_82 rfl)⟩
theorem ft_X7_2 : FT 7 2 (.object "HedgehogBorder$Marks") true := ⟨_, _, _, tyX7, rfl, tyX7_ok, nmX7, rfl, by decide +kernel, rfl⟩
theorem mw_83 : Cond.code yX7_weigh cX7_weigh 6 none ∈ lw_tbl := List.mem_of_getElem? (i := 510) (by decide +kernel)
theorem mw_84 : Cond.initialized RX7 ∈ lw_tbl := List.mem_of_getElem? (i := 87) (by decide +kernel)
theorem mw_85 : Cond.methodLink RX7 55 yX7_weigh ∈ lw_tbl := List.mem_of_getElem? (i := 507) (by decide +kernel)
theorem mw_86 : Cond.instanceMethod yX7_weigh ∈ lw_tbl := List.mem_of_getElem? (i := 509) (by decide +kernel)
theorem mw_87 : Cond.selects RX7 yX7_weigh yX7_weigh ∈ lw_tbl := List.mem_of_getElem? (i := 15) (by decide +kernel)
theorem mf_X7_55 : MFv RX7 55 yX7_weigh cX7_weigh 6 none 1 := ⟨⟨lg_in mw_83 rfl, lg_in mw_84 rfl, by decide +kernel, Or.inl (lg_in mw_85 rfl)⟩, lg_in mw_86 rfl, lg_in mw_87 rfl⟩
theorem mw_88 : Cond.code yX7_stroll cX7_stroll 8 none ∈ lw_tbl := List.mem_of_getElem? (i := 514) (by decide +kernel)
theorem mw_89 : Cond.methodLink RX7 59 yX7_stroll ∈ lw_tbl := List.mem_of_getElem? (i := 511) (by decide +kernel)
theorem mw_90 : Cond.instanceMethod yX7_stroll ∈ lw_tbl := List.mem_of_getElem? (i := 513) (by decide +kernel)
theorem mw_91 : Cond.selects RX7 yX7_stroll yX7_stroll ∈ lw_tbl := List.mem_of_getElem? (i := 16) (by decide +kernel)
theorem mf_X7_59 : MFv RX7 59 yX7_stroll cX7_stroll 8 none 1 := ⟨⟨lg_in mw_88 rfl, lg_in mw_84 rfl, by decide +kernel, Or.inl (lg_in mw_89 rfl)⟩, lg_in mw_90 rfl, lg_in mw_91 rfl⟩
theorem mw_92 : Cond.code yX7_realmOf cX7_realmOf 5 (some .int) ∈ lw_tbl := List.mem_of_getElem? (i := 549) (by decide +kernel)
theorem mw_93 : Cond.methodLink RX7 62 yX7_realmOf ∈ lw_tbl := List.mem_of_getElem? (i := 590) (by decide +kernel)
theorem mw_94 : Cond.instanceMethod yX7_realmOf ∈ lw_tbl := List.mem_of_getElem? (i := 548) (by decide +kernel)
theorem mw_95 : Cond.selects RX7 yX7_realmOf yX7_realmOf ∈ lw_tbl := List.mem_of_getElem? (i := 21) (by decide +kernel)
theorem mf_X7_62 : MFv RX7 62 yX7_realmOf cX7_realmOf 5 (some .int) 2 := ⟨⟨lg_in mw_92 rfl, lg_in mw_84 rfl, by decide +kernel, Or.inl (lg_in mw_93 rfl)⟩, lg_in mw_94 rfl, lg_in mw_95 rfl⟩
theorem mw_96 : Cond.fieldLinkNest RX7 66 "HedgehogBorder$Land" "cells" "I" "HedgehogBorder" ∈ lw_tbl := List.mem_of_getElem? (i := 147) (by decide +kernel)
theorem fg_X7_66 : FG RX7 66 3 6 := ⟨_, _, _, rfl, Nat.le_of_ble_eq_true rfl, inX3, Or.inr ⟨_, mw_96⟩⟩
theorem mw_97 : Cond.fieldLinkNest RX7 71 "HedgehogBorder$Land" "kinds" "[I" "HedgehogBorder" ∈ lw_tbl := List.mem_of_getElem? (i := 132) (by decide +kernel)
theorem fg_X7_71 : FG RX7 71 3 0 := ⟨_, _, _, rfl, Nat.le_of_ble_eq_true rfl, inX3, Or.inr ⟨_, mw_97⟩⟩
theorem mw_98 : Cond.fieldLinkNest RX7 74 "HedgehogBorder$Marks" "number" "I" "HedgehogBorder" ∈ lw_tbl := List.mem_of_getElem? (i := 211) (by decide +kernel)
theorem fg_X7_74 : FG RX7 74 4 3 := ⟨_, _, _, rfl, Nat.le_of_ble_eq_true rfl, inX4, Or.inr ⟨_, mw_98⟩⟩
theorem mw_99 : Cond.fieldLinkNest RX7 79 "HedgehogBorder$Marks" "nights" "[I" "HedgehogBorder" ∈ lw_tbl := List.mem_of_getElem? (i := 203) (by decide +kernel)
theorem fg_X7_79 : FG RX7 79 4 0 := ⟨_, _, _, rfl, Nat.le_of_ble_eq_true rfl, inX4, Or.inr ⟨_, mw_99⟩⟩
theorem mw_100 : Cond.fieldLinkNest RX7 82 "HedgehogBorder$Marks" "things" "[I" "HedgehogBorder" ∈ lw_tbl := List.mem_of_getElem? (i := 206) (by decide +kernel)
theorem fg_X7_82 : FG RX7 82 4 1 := ⟨_, _, _, rfl, Nat.le_of_ble_eq_true rfl, inX4, Or.inr ⟨_, mw_100⟩⟩
theorem mw_101 : Cond.code yX7_inheritLine cX7_inheritLine 4 none ∈ lw_tbl := List.mem_of_getElem? (i := 518) (by decide +kernel)
theorem mw_102 : Cond.methodLink RX7 85 yX7_inheritLine ∈ lw_tbl := List.mem_of_getElem? (i := 515) (by decide +kernel)
theorem mw_103 : Cond.instanceMethod yX7_inheritLine ∈ lw_tbl := List.mem_of_getElem? (i := 517) (by decide +kernel)
theorem mw_104 : Cond.selects RX7 yX7_inheritLine yX7_inheritLine ∈ lw_tbl := List.mem_of_getElem? (i := 17) (by decide +kernel)
theorem mf_X7_85 : MFv RX7 85 yX7_inheritLine cX7_inheritLine 4 none 1 := ⟨⟨lg_in mw_101 rfl, lg_in mw_84 rfl, by decide +kernel, Or.inl (lg_in mw_102 rfl)⟩, lg_in mw_103 rfl, lg_in mw_104 rfl⟩
theorem mw_105 : Cond.code yX7_firstCell cX7_firstCell 2 (some .int) ∈ lw_tbl := List.mem_of_getElem? (i := 522) (by decide +kernel)
theorem mw_106 : Cond.methodLink RX7 88 yX7_firstCell ∈ lw_tbl := List.mem_of_getElem? (i := 519) (by decide +kernel)
theorem mw_107 : Cond.instanceMethod yX7_firstCell ∈ lw_tbl := List.mem_of_getElem? (i := 521) (by decide +kernel)
theorem mw_108 : Cond.selects RX7 yX7_firstCell yX7_firstCell ∈ lw_tbl := List.mem_of_getElem? (i := 18) (by decide +kernel)
theorem mf_X7_88 : MFv RX7 88 yX7_firstCell cX7_firstCell 2 (some .int) 0 := ⟨⟨lg_in mw_105 rfl, lg_in mw_84 rfl, by decide +kernel, Or.inl (lg_in mw_106 rfl)⟩, lg_in mw_107 rfl, lg_in mw_108 rfl⟩
theorem mw_109 : Cond.fieldLinkNest RX7 92 "HedgehogBorder$Land" "columnAt" "[I" "HedgehogBorder" ∈ lw_tbl := List.mem_of_getElem? (i := 137) (by decide +kernel)
theorem fg_X7_92 : FG RX7 92 3 2 := ⟨_, _, _, rfl, Nat.le_of_ble_eq_true rfl, inX3, Or.inr ⟨_, mw_109⟩⟩
theorem mw_110 : Cond.fieldLinkNest RX7 95 "HedgehogBorder$Land" "rowAt" "[I" "HedgehogBorder" ∈ lw_tbl := List.mem_of_getElem? (i := 135) (by decide +kernel)
theorem fg_X7_95 : FG RX7 95 3 1 := ⟨_, _, _, rfl, Nat.le_of_ble_eq_true rfl, inX3, Or.inr ⟨_, mw_110⟩⟩
theorem mw_111 : Cond.fieldLinkNest RX7 98 "HedgehogBorder$Land" "columns" "I" "HedgehogBorder" ∈ lw_tbl := List.mem_of_getElem? (i := 150) (by decide +kernel)
theorem fg_X7_98 : FG RX7 98 3 7 := ⟨_, _, _, rfl, Nat.le_of_ble_eq_true rfl, inX3, Or.inr ⟨_, mw_111⟩⟩
theorem mw_112 : Cond.code yX7_choose cX7_choose 10 (some .int) ∈ lw_tbl := List.mem_of_getElem? (i := 526) (by decide +kernel)
theorem mw_113 : Cond.methodLink RX7 101 yX7_choose ∈ lw_tbl := List.mem_of_getElem? (i := 523) (by decide +kernel)
theorem mw_114 : Cond.instanceMethod yX7_choose ∈ lw_tbl := List.mem_of_getElem? (i := 525) (by decide +kernel)
theorem mw_115 : Cond.selects RX7 yX7_choose yX7_choose ∈ lw_tbl := List.mem_of_getElem? (i := 19) (by decide +kernel)
theorem mf_X7_101 : MFv RX7 101 yX7_choose cX7_choose 10 (some .int) 3 := ⟨⟨lg_in mw_112 rfl, lg_in mw_84 rfl, by decide +kernel, Or.inl (lg_in mw_113 rfl)⟩, lg_in mw_114 rfl, lg_in mw_115 rfl⟩
theorem mw_116 : Cond.fieldLinkNest RX7 105 "HedgehogBorder$Land" "rows" "I" "HedgehogBorder" ∈ lw_tbl := List.mem_of_getElem? (i := 153) (by decide +kernel)
theorem fg_X7_105 : FG RX7 105 3 8 := ⟨_, _, _, rfl, Nat.le_of_ble_eq_true rfl, inX3, Or.inr ⟨_, mw_116⟩⟩
theorem mw_117 : Cond.fieldLinkNest RX7 108 "HedgehogBorder$Land" "ways" "[I" "HedgehogBorder" ∈ lw_tbl := List.mem_of_getElem? (i := 139) (by decide +kernel)
theorem fg_X7_108 : FG RX7 108 3 3 := ⟨_, _, _, rfl, Nat.le_of_ble_eq_true rfl, inX3, Or.inr ⟨_, mw_117⟩⟩
theorem mw_118 : Cond.fieldLinkNest RX7 111 "HedgehogBorder$Land" "beside" "[I" "HedgehogBorder" ∈ lw_tbl := List.mem_of_getElem? (i := 142) (by decide +kernel)
theorem fg_X7_111 : FG RX7 111 3 4 := ⟨_, _, _, rfl, Nat.le_of_ble_eq_true rfl, inX3, Or.inr ⟨_, mw_118⟩⟩
theorem mw_119 : Cond.methodLink RX7 114 Lib.Math.min.name ∈ lw_tbl := List.mem_of_getElem? (i := 531) (by decide +kernel)
theorem mw_120 : Cond.static Lib.Math.min.name ∈ lw_tbl := List.mem_of_getElem? (i := 532) (by decide +kernel)
theorem mw_121 : Cond.initialized "java/lang/Math" ∈ lw_tbl := List.mem_of_getElem? (i := 92) (by decide +kernel)
theorem mw_122 : Cond.code Lib.Math.min.name Lib.Math.min.code 2 (some .int) ∈ lw_tbl := List.mem_of_getElem? (i := 533) (by decide +kernel)
theorem mw_123 : Cond.fieldLink RX8 11 "HedgehogBorder" "texts" "[LHedgehogBorder$Text;" ∈ lw_tbl := List.mem_of_getElem? (i := 341) (by decide +kernel)
theorem fg_X8_11 : FG RX8 11 8 0 := ⟨_, _, _, rfl, Nat.le_of_ble_eq_true rfl, inX8, Or.inl (lg_in mw_123 rfl)⟩
theorem ft_X8_0 : FT 8 0 (.array (.object "HedgehogBorder$Text")) true := ⟨_, _, _, tyX8, rfl, tyX8_ok, nmX8, rfl, by decide +kernel, rfl⟩
theorem mw_124 : Cond.code yX6_init cX6_init 2 none ∈ lw_tbl := List.mem_of_getElem? (i := 110) (by decide +kernel)
theorem mw_125 : Cond.initialized RX6 ∈ lw_tbl := List.mem_of_getElem? (i := 83) (by decide +kernel)
theorem mw_126 : Cond.methodLinkNest RX8 15 yX6_init "HedgehogBorder" ∈ lw_tbl := List.mem_of_getElem? (i := 108) (by decide +kernel)
theorem mw_127 : Cond.instanceMethod yX6_init ∈ lw_tbl := List.mem_of_getElem? (i := 109) (by decide +kernel)
theorem mf_X8_15 : MFb RX8 15 yX6_init cX6_init 2 none 1 ∧ Cond.instanceMethod yX6_init ∈ lw_good := ⟨⟨lg_in mw_124 rfl, lg_in mw_125 rfl, by decide +kernel, Or.inr ⟨_, mw_126⟩⟩, lg_in mw_127 rfl⟩
theorem mw_128 : Cond.code yX3_init cX3_init 1 none ∈ lw_tbl := List.mem_of_getElem? (i := 129) (by decide +kernel)
theorem mw_129 : Cond.methodLinkNest RX8 20 yX3_init "HedgehogBorder" ∈ lw_tbl := List.mem_of_getElem? (i := 127) (by decide +kernel)
theorem mw_130 : Cond.instanceMethod yX3_init ∈ lw_tbl := List.mem_of_getElem? (i := 128) (by decide +kernel)
theorem mf_X8_20 : MFb RX8 20 yX3_init cX3_init 1 none 0 ∧ Cond.instanceMethod yX3_init ∈ lw_good := ⟨⟨lg_in mw_128 rfl, lg_in mw_31 rfl, by decide +kernel, Or.inr ⟨_, mw_129⟩⟩, lg_in mw_130 rfl⟩
theorem mw_131 : Cond.fieldLink RX8 21 "HedgehogBorder" "land" "LHedgehogBorder$Land;" ∈ lw_tbl := List.mem_of_getElem? (i := 342) (by decide +kernel)
theorem fg_X8_21 : FG RX8 21 8 1 := ⟨_, _, _, rfl, Nat.le_of_ble_eq_true rfl, inX8, Or.inl (lg_in mw_131 rfl)⟩
theorem ft_X8_1 : FT 8 1 (.object "HedgehogBorder$Land") true := ⟨_, _, _, tyX8, rfl, tyX8_ok, nmX8, rfl, by decide +kernel, rfl⟩
theorem mw_132 : Cond.code yX1_init cX1_init 1 none ∈ lw_tbl := List.mem_of_getElem? (i := 177) (by decide +kernel)
theorem mw_133 : Cond.methodLinkNest RX8 27 yX1_init "HedgehogBorder" ∈ lw_tbl := List.mem_of_getElem? (i := 175) (by decide +kernel)
theorem mw_134 : Cond.instanceMethod yX1_init ∈ lw_tbl := List.mem_of_getElem? (i := 176) (by decide +kernel)
theorem mf_X8_27 : MFb RX8 27 yX1_init cX1_init 1 none 0 ∧ Cond.instanceMethod yX1_init ∈ lw_good := ⟨⟨lg_in mw_132 rfl, lg_in mw_10 rfl, by decide +kernel, Or.inr ⟨_, mw_133⟩⟩, lg_in mw_134 rfl⟩
theorem mw_135 : Cond.fieldLink RX8 28 "HedgehogBorder" "houses" "LHedgehogBorder$Houses;" ∈ lw_tbl := List.mem_of_getElem? (i := 343) (by decide +kernel)
theorem fg_X8_28 : FG RX8 28 8 2 := ⟨_, _, _, rfl, Nat.le_of_ble_eq_true rfl, inX8, Or.inl (lg_in mw_135 rfl)⟩
theorem ft_X8_2 : FT 8 2 (.object "HedgehogBorder$Houses") true := ⟨_, _, _, tyX8, rfl, tyX8_ok, nmX8, rfl, by decide +kernel, rfl⟩
theorem mw_136 : Cond.code yX4_init cX4_init 1 none ∈ lw_tbl := List.mem_of_getElem? (i := 200) (by decide +kernel)
theorem mw_137 : Cond.initialized RX4 ∈ lw_tbl := List.mem_of_getElem? (i := 86) (by decide +kernel)
theorem mw_138 : Cond.methodLinkNest RX8 34 yX4_init "HedgehogBorder" ∈ lw_tbl := List.mem_of_getElem? (i := 198) (by decide +kernel)
theorem mw_139 : Cond.instanceMethod yX4_init ∈ lw_tbl := List.mem_of_getElem? (i := 199) (by decide +kernel)
theorem mf_X8_34 : MFb RX8 34 yX4_init cX4_init 1 none 0 ∧ Cond.instanceMethod yX4_init ∈ lw_good := ⟨⟨lg_in mw_136 rfl, lg_in mw_137 rfl, by decide +kernel, Or.inr ⟨_, mw_138⟩⟩, lg_in mw_139 rfl⟩
theorem mw_140 : Cond.fieldLink RX8 35 "HedgehogBorder" "bowls" "LHedgehogBorder$Marks;" ∈ lw_tbl := List.mem_of_getElem? (i := 344) (by decide +kernel)
theorem fg_X8_35 : FG RX8 35 8 3 := ⟨_, _, _, rfl, Nat.le_of_ble_eq_true rfl, inX8, Or.inl (lg_in mw_140 rfl)⟩
theorem ft_X8_3 : FT 8 3 (.object "HedgehogBorder$Marks") true := ⟨_, _, _, tyX8, rfl, tyX8_ok, nmX8, rfl, by decide +kernel, rfl⟩
theorem mw_141 : Cond.fieldLink RX8 39 "HedgehogBorder" "dogs" "LHedgehogBorder$Marks;" ∈ lw_tbl := List.mem_of_getElem? (i := 345) (by decide +kernel)
theorem fg_X8_39 : FG RX8 39 8 4 := ⟨_, _, _, rfl, Nat.le_of_ble_eq_true rfl, inX8, Or.inl (lg_in mw_141 rfl)⟩
theorem ft_X8_4 : FT 8 4 (.object "HedgehogBorder$Marks") true := ⟨_, _, _, tyX8, rfl, tyX8_ok, nmX8, rfl, by decide +kernel, rfl⟩
theorem mw_142 : Cond.fieldLink RX8 42 "HedgehogBorder" "sights" "LHedgehogBorder$Marks;" ∈ lw_tbl := List.mem_of_getElem? (i := 346) (by decide +kernel)
theorem fg_X8_42 : FG RX8 42 8 5 := ⟨_, _, _, rfl, Nat.le_of_ble_eq_true rfl, inX8, Or.inl (lg_in mw_142 rfl)⟩
theorem ft_X8_5 : FT 8 5 (.object "HedgehogBorder$Marks") true := ⟨_, _, _, tyX8, rfl, tyX8_ok, nmX8, rfl, by decide +kernel, rfl⟩
theorem mw_143 : Cond.code yX7_init cX7_init 4 none ∈ lw_tbl := List.mem_of_getElem? (i := 226) (by decide +kernel)
theorem mw_144 : Cond.methodLinkNest RX8 47 yX7_init "HedgehogBorder" ∈ lw_tbl := List.mem_of_getElem? (i := 224) (by decide +kernel)
theorem mw_145 : Cond.instanceMethod yX7_init ∈ lw_tbl := List.mem_of_getElem? (i := 225) (by decide +kernel)
theorem mf_X8_47 : MFb RX8 47 yX7_init cX7_init 4 none 3 ∧ Cond.instanceMethod yX7_init ∈ lw_good := ⟨⟨lg_in mw_143 rfl, lg_in mw_84 rfl, by decide +kernel, Or.inr ⟨_, mw_144⟩⟩, lg_in mw_145 rfl⟩
theorem mw_146 : Cond.fieldLink RX8 50 "HedgehogBorder" "walks" "LHedgehogBorder$Walker;" ∈ lw_tbl := List.mem_of_getElem? (i := 347) (by decide +kernel)
theorem fg_X8_50 : FG RX8 50 8 6 := ⟨_, _, _, rfl, Nat.le_of_ble_eq_true rfl, inX8, Or.inl (lg_in mw_146 rfl)⟩
theorem ft_X8_6 : FT 8 6 (.object "HedgehogBorder$Walker") true := ⟨_, _, _, tyX8, rfl, tyX8_ok, nmX8, rfl, by decide +kernel, rfl⟩
theorem mw_147 : Cond.fieldLink RX8 54 "HedgehogBorder" "trial" "LHedgehogBorder$Walker;" ∈ lw_tbl := List.mem_of_getElem? (i := 348) (by decide +kernel)
theorem fg_X8_54 : FG RX8 54 8 7 := ⟨_, _, _, rfl, Nat.le_of_ble_eq_true rfl, inX8, Or.inl (lg_in mw_147 rfl)⟩
theorem ft_X8_7 : FT 8 7 (.object "HedgehogBorder$Walker") true := ⟨_, _, _, tyX8, rfl, tyX8_ok, nmX8, rfl, by decide +kernel, rfl⟩
theorem mw_148 : Cond.code yX2_init cX2_init 1 none ∈ lw_tbl := List.mem_of_getElem? (i := 279) (by decide +kernel)
theorem mw_149 : Cond.initialized RX2 ∈ lw_tbl := List.mem_of_getElem? (i := 88) (by decide +kernel)
theorem mw_150 : Cond.methodLinkNest RX8 59 yX2_init "HedgehogBorder" ∈ lw_tbl := List.mem_of_getElem? (i := 277) (by decide +kernel)
theorem mw_151 : Cond.instanceMethod yX2_init ∈ lw_tbl := List.mem_of_getElem? (i := 278) (by decide +kernel)
theorem mf_X8_59 : MFb RX8 59 yX2_init cX2_init 1 none 0 ∧ Cond.instanceMethod yX2_init ∈ lw_good := ⟨⟨lg_in mw_148 rfl, lg_in mw_149 rfl, by decide +kernel, Or.inr ⟨_, mw_150⟩⟩, lg_in mw_151 rfl⟩
theorem mw_152 : Cond.fieldLink RX8 60 "HedgehogBorder" "laid" "LHedgehogBorder$Laid;" ∈ lw_tbl := List.mem_of_getElem? (i := 349) (by decide +kernel)
theorem fg_X8_60 : FG RX8 60 8 8 := ⟨_, _, _, rfl, Nat.le_of_ble_eq_true rfl, inX8, Or.inl (lg_in mw_152 rfl)⟩
theorem ft_X8_8 : FT 8 8 (.object "HedgehogBorder$Laid") true := ⟨_, _, _, tyX8, rfl, tyX8_ok, nmX8, rfl, by decide +kernel, rfl⟩
theorem mw_153 : Cond.code yX0_init cX0_init 1 none ∈ lw_tbl := List.mem_of_getElem? (i := 298) (by decide +kernel)
theorem mw_154 : Cond.initialized RX0 ∈ lw_tbl := List.mem_of_getElem? (i := 89) (by decide +kernel)
theorem mw_155 : Cond.methodLinkNest RX8 66 yX0_init "HedgehogBorder" ∈ lw_tbl := List.mem_of_getElem? (i := 296) (by decide +kernel)
theorem mw_156 : Cond.instanceMethod yX0_init ∈ lw_tbl := List.mem_of_getElem? (i := 297) (by decide +kernel)
theorem mf_X8_66 : MFb RX8 66 yX0_init cX0_init 1 none 0 ∧ Cond.instanceMethod yX0_init ∈ lw_good := ⟨⟨lg_in mw_153 rfl, lg_in mw_154 rfl, by decide +kernel, Or.inr ⟨_, mw_155⟩⟩, lg_in mw_156 rfl⟩
theorem mw_157 : Cond.fieldLink RX8 67 "HedgehogBorder" "chances" "LHedgehogBorder$Chances;" ∈ lw_tbl := List.mem_of_getElem? (i := 350) (by decide +kernel)
theorem fg_X8_67 : FG RX8 67 8 9 := ⟨_, _, _, rfl, Nat.le_of_ble_eq_true rfl, inX8, Or.inl (lg_in mw_157 rfl)⟩
theorem ft_X8_9 : FT 8 9 (.object "HedgehogBorder$Chances") true := ⟨_, _, _, tyX8, rfl, tyX8_ok, nmX8, rfl, by decide +kernel, rfl⟩
theorem mw_158 : Cond.fieldLink RX8 71 "HedgehogBorder" "tally" "[I" ∈ lw_tbl := List.mem_of_getElem? (i := 351) (by decide +kernel)
theorem fg_X8_71 : FG RX8 71 8 10 := ⟨_, _, _, rfl, Nat.le_of_ble_eq_true rfl, inX8, Or.inl (lg_in mw_158 rfl)⟩
theorem ft_X8_10 : FT 8 10 (.array .int) true := ⟨_, _, _, tyX8, rfl, tyX8_ok, nmX8, rfl, by decide +kernel, rfl⟩
theorem mw_159 : Cond.fieldLink RX8 77 "HedgehogBorder" "sheets" "[LHedgehogBorder$Sheet;" ∈ lw_tbl := List.mem_of_getElem? (i := 352) (by decide +kernel)
theorem fg_X8_77 : FG RX8 77 8 11 := ⟨_, _, _, rfl, Nat.le_of_ble_eq_true rfl, inX8, Or.inl (lg_in mw_159 rfl)⟩
theorem ft_X8_11 : FT 8 11 (.array (.object "HedgehogBorder$Sheet")) true := ⟨_, _, _, tyX8, rfl, tyX8_ok, nmX8, rfl, by decide +kernel, rfl⟩
theorem mw_160 : Cond.code yX5_init cX5_init 1 none ∈ lw_tbl := List.mem_of_getElem? (i := 322) (by decide +kernel)
theorem mw_161 : Cond.initialized RX5 ∈ lw_tbl := List.mem_of_getElem? (i := 90) (by decide +kernel)
theorem mw_162 : Cond.methodLinkNest RX8 81 yX5_init "HedgehogBorder" ∈ lw_tbl := List.mem_of_getElem? (i := 320) (by decide +kernel)
theorem mw_163 : Cond.instanceMethod yX5_init ∈ lw_tbl := List.mem_of_getElem? (i := 321) (by decide +kernel)
theorem mf_X8_81 : MFb RX8 81 yX5_init cX5_init 1 none 0 ∧ Cond.instanceMethod yX5_init ∈ lw_good := ⟨⟨lg_in mw_160 rfl, lg_in mw_161 rfl, by decide +kernel, Or.inr ⟨_, mw_162⟩⟩, lg_in mw_163 rfl⟩
theorem mw_164 : Cond.fieldLink RX8 82 "HedgehogBorder" "stale" "Z" ∈ lw_tbl := List.mem_of_getElem? (i := 353) (by decide +kernel)
theorem fg_X8_82 : FG RX8 82 8 12 := ⟨_, _, _, rfl, Nat.le_of_ble_eq_true rfl, inX8, Or.inl (lg_in mw_164 rfl)⟩
theorem ft_X8_12 : FT 8 12 .boolean false := ⟨_, _, _, tyX8, rfl, tyX8_ok, nmX8, rfl, by decide +kernel, rfl⟩
theorem mw_165 : Cond.fieldLink RX8 86 "HedgehogBorder" "finding" "I" ∈ lw_tbl := List.mem_of_getElem? (i := 354) (by decide +kernel)
theorem fg_X8_86 : FG RX8 86 8 13 := ⟨_, _, _, rfl, Nat.le_of_ble_eq_true rfl, inX8, Or.inl (lg_in mw_165 rfl)⟩
theorem ft_X8_13 : FT 8 13 .int false := ⟨_, _, _, tyX8, rfl, tyX8_ok, nmX8, rfl, by decide +kernel, rfl⟩
theorem mw_166 : Cond.code yX8_isUpTo cX8_isUpTo 2 (some .boolean) ∈ lw_tbl := List.mem_of_getElem? (i := 390) (by decide +kernel)
theorem mw_167 : Cond.initialized RX8 ∈ lw_tbl := List.mem_of_getElem? (i := 82) (by decide +kernel)
theorem mw_168 : Cond.methodLink RX8 90 yX8_isUpTo ∈ lw_tbl := List.mem_of_getElem? (i := 388) (by decide +kernel)
theorem mw_169 : Cond.static yX8_isUpTo ∈ lw_tbl := List.mem_of_getElem? (i := 389) (by decide +kernel)
theorem mf_X8_90 : MFs RX8 90 yX8_isUpTo cX8_isUpTo 2 (some .boolean) 2 := ⟨⟨lg_in mw_166 rfl, lg_in mw_167 rfl, by decide +kernel, Or.inl (lg_in mw_168 rfl)⟩, lg_in mw_169 rfl⟩
theorem mw_170 : Cond.code yX6_append cX6_append 2 (some .boolean) ∈ lw_tbl := List.mem_of_getElem? (i := 394) (by decide +kernel)
theorem mw_171 : Cond.methodLinkNest RX8 94 yX6_append "HedgehogBorder" ∈ lw_tbl := List.mem_of_getElem? (i := 391) (by decide +kernel)
theorem mw_172 : Cond.instanceMethod yX6_append ∈ lw_tbl := List.mem_of_getElem? (i := 393) (by decide +kernel)
theorem mw_173 : Cond.selects RX6 yX6_append yX6_append ∈ lw_tbl := List.mem_of_getElem? (i := 0) (by decide +kernel)
theorem mf_X8_94 : MFv RX8 94 yX6_append cX6_append 2 (some .boolean) 1 := ⟨⟨lg_in mw_170 rfl, lg_in mw_125 rfl, by decide +kernel, Or.inr ⟨_, mw_171⟩⟩, lg_in mw_172 rfl, lg_in mw_173 rfl⟩
theorem mw_174 : Cond.code yX8_understand cX8_understand 2 none ∈ lw_tbl := List.mem_of_getElem? (i := 398) (by decide +kernel)
theorem mw_175 : Cond.methodLink RX8 98 yX8_understand ∈ lw_tbl := List.mem_of_getElem? (i := 395) (by decide +kernel)
theorem mw_176 : Cond.instanceMethod yX8_understand ∈ lw_tbl := List.mem_of_getElem? (i := 397) (by decide +kernel)
theorem mw_177 : Cond.selects RX8 yX8_understand yX8_understand ∈ lw_tbl := List.mem_of_getElem? (i := 1) (by decide +kernel)
theorem mf_X8_98 : MFv RX8 98 yX8_understand cX8_understand 2 none 1 := ⟨⟨lg_in mw_174 rfl, lg_in mw_167 rfl, by decide +kernel, Or.inl (lg_in mw_175 rfl)⟩, lg_in mw_176 rfl, lg_in mw_177 rfl⟩
theorem mw_178 : Cond.fieldLinkNest RX8 101 "HedgehogBorder$Text" "length" "I" "HedgehogBorder" ∈ lw_tbl := List.mem_of_getElem? (i := 118) (by decide +kernel)
theorem fg_X8_101 : FG RX8 101 6 1 := ⟨_, _, _, rfl, Nat.le_of_ble_eq_true rfl, inX6, Or.inr ⟨_, mw_178⟩⟩
theorem mw_179 : Cond.fieldLinkNest RX8 104 "HedgehogBorder$Land" "flaw" "I" "HedgehogBorder" ∈ lw_tbl := List.mem_of_getElem? (i := 145) (by decide +kernel)
theorem fg_X8_104 : FG RX8 104 3 5 := ⟨_, _, _, rfl, Nat.le_of_ble_eq_true rfl, inX3, Or.inr ⟨_, mw_179⟩⟩
theorem mw_180 : Cond.fieldLinkNest RX8 107 "HedgehogBorder$Houses" "flaw" "I" "HedgehogBorder" ∈ lw_tbl := List.mem_of_getElem? (i := 184) (by decide +kernel)
theorem fg_X8_107 : FG RX8 107 1 2 := ⟨_, _, _, rfl, Nat.le_of_ble_eq_true rfl, inX1, Or.inr ⟨_, mw_180⟩⟩
theorem mw_181 : Cond.fieldLinkNest RX8 108 "HedgehogBorder$Land" "cells" "I" "HedgehogBorder" ∈ lw_tbl := List.mem_of_getElem? (i := 148) (by decide +kernel)
theorem fg_X8_108 : FG RX8 108 3 6 := ⟨_, _, _, rfl, Nat.le_of_ble_eq_true rfl, inX3, Or.inr ⟨_, mw_181⟩⟩
theorem mw_182 : Cond.fieldLinkNest RX8 111 "HedgehogBorder$Land" "kinds" "[I" "HedgehogBorder" ∈ lw_tbl := List.mem_of_getElem? (i := 133) (by decide +kernel)
theorem fg_X8_111 : FG RX8 111 3 0 := ⟨_, _, _, rfl, Nat.le_of_ble_eq_true rfl, inX3, Or.inr ⟨_, mw_182⟩⟩
theorem mw_183 : Cond.code yX8_isHouse cX8_isHouse 2 (some .boolean) ∈ lw_tbl := List.mem_of_getElem? (i := 459) (by decide +kernel)
theorem mw_184 : Cond.methodLink RX8 114 yX8_isHouse ∈ lw_tbl := List.mem_of_getElem? (i := 456) (by decide +kernel)
theorem mw_185 : Cond.instanceMethod yX8_isHouse ∈ lw_tbl := List.mem_of_getElem? (i := 458) (by decide +kernel)
theorem mw_186 : Cond.selects RX8 yX8_isHouse yX8_isHouse ∈ lw_tbl := List.mem_of_getElem? (i := 9) (by decide +kernel)
theorem mf_X8_114 : MFv RX8 114 yX8_isHouse cX8_isHouse 2 (some .boolean) 1 := ⟨⟨lg_in mw_183 rfl, lg_in mw_167 rfl, by decide +kernel, Or.inl (lg_in mw_184 rfl)⟩, lg_in mw_185 rfl, lg_in mw_186 rfl⟩
theorem mw_187 : Cond.fieldLinkNest RX8 117 "HedgehogBorder$Houses" "places" "[I" "HedgehogBorder" ∈ lw_tbl := List.mem_of_getElem? (i := 180) (by decide +kernel)
theorem fg_X8_117 : FG RX8 117 1 0 := ⟨_, _, _, rfl, Nat.le_of_ble_eq_true rfl, inX1, Or.inr ⟨_, mw_187⟩⟩
theorem mw_188 : Cond.fieldLinkNest RX8 120 "HedgehogBorder$Houses" "dues" "[I" "HedgehogBorder" ∈ lw_tbl := List.mem_of_getElem? (i := 182) (by decide +kernel)
theorem fg_X8_120 : FG RX8 120 1 1 := ⟨_, _, _, rfl, Nat.le_of_ble_eq_true rfl, inX1, Or.inr ⟨_, mw_188⟩⟩
theorem mw_189 : Cond.fieldLinkNest RX8 123 "HedgehogBorder$Walker" "start" "I" "HedgehogBorder" ∈ lw_tbl := List.mem_of_getElem? (i := 240) (by decide +kernel)
theorem fg_X8_123 : FG RX8 123 7 9 := ⟨_, _, _, rfl, Nat.le_of_ble_eq_true rfl, inX7, Or.inr ⟨_, mw_189⟩⟩
theorem mw_190 : Cond.fieldLinkNest RX8 126 "HedgehogBorder$Walker" "frost" "I" "HedgehogBorder" ∈ lw_tbl := List.mem_of_getElem? (i := 242) (by decide +kernel)
theorem fg_X8_126 : FG RX8 126 7 10 := ⟨_, _, _, rfl, Nat.le_of_ble_eq_true rfl, inX7, Or.inr ⟨_, mw_190⟩⟩
theorem mw_191 : Cond.code yX8_putMark cX8_putMark 4 (some .int) ∈ lw_tbl := List.mem_of_getElem? (i := 471) (by decide +kernel)
theorem mw_192 : Cond.methodLink RX8 129 yX8_putMark ∈ lw_tbl := List.mem_of_getElem? (i := 468) (by decide +kernel)
theorem mw_193 : Cond.instanceMethod yX8_putMark ∈ lw_tbl := List.mem_of_getElem? (i := 470) (by decide +kernel)
theorem mw_194 : Cond.selects RX8 yX8_putMark yX8_putMark ∈ lw_tbl := List.mem_of_getElem? (i := 10) (by decide +kernel)
theorem mf_X8_129 : MFv RX8 129 yX8_putMark cX8_putMark 4 (some .int) 3 := ⟨⟨lg_in mw_191 rfl, lg_in mw_167 rfl, by decide +kernel, Or.inl (lg_in mw_192 rfl)⟩, lg_in mw_193 rfl, lg_in mw_194 rfl⟩
theorem mw_195 : Cond.fieldLinkNest RX8 133 "HedgehogBorder$Marks" "number" "I" "HedgehogBorder" ∈ lw_tbl := List.mem_of_getElem? (i := 212) (by decide +kernel)
theorem fg_X8_133 : FG RX8 133 4 3 := ⟨_, _, _, rfl, Nat.le_of_ble_eq_true rfl, inX4, Or.inr ⟨_, mw_195⟩⟩
theorem mw_196 : Cond.fieldLinkNest RX8 136 "HedgehogBorder$Sheet" "lost" "Z" "HedgehogBorder" ∈ lw_tbl := List.mem_of_getElem? (i := 327) (by decide +kernel)
theorem fg_X8_136 : FG RX8 136 5 1 := ⟨_, _, _, rfl, Nat.le_of_ble_eq_true rfl, inX5, Or.inr ⟨_, mw_196⟩⟩
theorem mw_197 : Cond.code yX8_found cX8_found 2 (some .int) ∈ lw_tbl := List.mem_of_getElem? (i := 494) (by decide +kernel)
theorem mw_198 : Cond.methodLink RX8 139 yX8_found ∈ lw_tbl := List.mem_of_getElem? (i := 491) (by decide +kernel)
theorem mw_199 : Cond.instanceMethod yX8_found ∈ lw_tbl := List.mem_of_getElem? (i := 493) (by decide +kernel)
theorem mw_200 : Cond.selects RX8 yX8_found yX8_found ∈ lw_tbl := List.mem_of_getElem? (i := 12) (by decide +kernel)
theorem mf_X8_139 : MFv RX8 139 yX8_found cX8_found 2 (some .int) 1 := ⟨⟨lg_in mw_197 rfl, lg_in mw_167 rfl, by decide +kernel, Or.inl (lg_in mw_198 rfl)⟩, lg_in mw_199 rfl, lg_in mw_200 rfl⟩
theorem mw_201 : Cond.fieldLinkNest RX8 143 "HedgehogBorder$Sheet" "size" "I" "HedgehogBorder" ∈ lw_tbl := List.mem_of_getElem? (i := 331) (by decide +kernel)
theorem fg_X8_143 : FG RX8 143 5 3 := ⟨_, _, _, rfl, Nat.le_of_ble_eq_true rfl, inX5, Or.inr ⟨_, mw_201⟩⟩
theorem mw_202 : Cond.fieldLinkNest RX8 146 "HedgehogBorder$Sheet" "items" "[I" "HedgehogBorder" ∈ lw_tbl := List.mem_of_getElem? (i := 325) (by decide +kernel)
theorem fg_X8_146 : FG RX8 146 5 0 := ⟨_, _, _, rfl, Nat.le_of_ble_eq_true rfl, inX5, Or.inr ⟨_, mw_202⟩⟩
theorem mw_203 : Cond.code yX8_isNight cX8_isNight 1 (some .boolean) ∈ lw_tbl := List.mem_of_getElem? (i := 474) (by decide +kernel)
theorem mw_204 : Cond.methodLink RX8 149 yX8_isNight ∈ lw_tbl := List.mem_of_getElem? (i := 472) (by decide +kernel)
theorem mw_205 : Cond.static yX8_isNight ∈ lw_tbl := List.mem_of_getElem? (i := 473) (by decide +kernel)
theorem mf_X8_149 : MFs RX8 149 yX8_isNight cX8_isNight 1 (some .boolean) 1 := ⟨⟨lg_in mw_203 rfl, lg_in mw_167 rfl, by decide +kernel, Or.inl (lg_in mw_204 rfl)⟩, lg_in mw_205 rfl⟩
theorem mw_206 : Cond.code yX4_append cX4_append 4 (some .boolean) ∈ lw_tbl := List.mem_of_getElem? (i := 478) (by decide +kernel)
theorem mw_207 : Cond.methodLinkNest RX8 152 yX4_append "HedgehogBorder" ∈ lw_tbl := List.mem_of_getElem? (i := 475) (by decide +kernel)
theorem mw_208 : Cond.instanceMethod yX4_append ∈ lw_tbl := List.mem_of_getElem? (i := 477) (by decide +kernel)
theorem mw_209 : Cond.selects RX4 yX4_append yX4_append ∈ lw_tbl := List.mem_of_getElem? (i := 11) (by decide +kernel)
theorem mf_X8_152 : MFv RX8 152 yX4_append cX4_append 4 (some .boolean) 3 := ⟨⟨lg_in mw_206 rfl, lg_in mw_137 rfl, by decide +kernel, Or.inr ⟨_, mw_207⟩⟩, lg_in mw_208 rfl, lg_in mw_209 rfl⟩
theorem mw_210 : Cond.code yX3_understand cX3_understand 3 none ∈ lw_tbl := List.mem_of_getElem? (i := 402) (by decide +kernel)
theorem mw_211 : Cond.methodLinkNest RX8 155 yX3_understand "HedgehogBorder" ∈ lw_tbl := List.mem_of_getElem? (i := 399) (by decide +kernel)
theorem mw_212 : Cond.instanceMethod yX3_understand ∈ lw_tbl := List.mem_of_getElem? (i := 401) (by decide +kernel)
theorem mw_213 : Cond.selects RX3 yX3_understand yX3_understand ∈ lw_tbl := List.mem_of_getElem? (i := 2) (by decide +kernel)
theorem mf_X8_155 : MFv RX8 155 yX3_understand cX3_understand 3 none 1 := ⟨⟨lg_in mw_210 rfl, lg_in mw_31 rfl, by decide +kernel, Or.inr ⟨_, mw_211⟩⟩, lg_in mw_212 rfl, lg_in mw_213 rfl⟩
theorem mw_214 : Cond.code yX1_understand cX1_understand 5 none ∈ lw_tbl := List.mem_of_getElem? (i := 429) (by decide +kernel)
theorem mw_215 : Cond.methodLinkNest RX8 158 yX1_understand "HedgehogBorder" ∈ lw_tbl := List.mem_of_getElem? (i := 426) (by decide +kernel)
theorem mw_216 : Cond.instanceMethod yX1_understand ∈ lw_tbl := List.mem_of_getElem? (i := 428) (by decide +kernel)
theorem mw_217 : Cond.selects RX1 yX1_understand yX1_understand ∈ lw_tbl := List.mem_of_getElem? (i := 8) (by decide +kernel)
theorem mf_X8_158 : MFv RX8 158 yX1_understand cX1_understand 5 none 1 := ⟨⟨lg_in mw_214 rfl, lg_in mw_10 rfl, by decide +kernel, Or.inr ⟨_, mw_215⟩⟩, lg_in mw_216 rfl, lg_in mw_217 rfl⟩
theorem mw_218 : Cond.code yX8_told cX8_told 1 (some (.object "HedgehogBorder$Walker")) ∈ lw_tbl := List.mem_of_getElem? (i := 502) (by decide +kernel)
theorem mw_219 : Cond.methodLink RX8 159 yX8_told ∈ lw_tbl := List.mem_of_getElem? (i := 499) (by decide +kernel)
theorem mw_220 : Cond.instanceMethod yX8_told ∈ lw_tbl := List.mem_of_getElem? (i := 501) (by decide +kernel)
theorem mw_221 : Cond.selects RX8 yX8_told yX8_told ∈ lw_tbl := List.mem_of_getElem? (i := 13) (by decide +kernel)
theorem mf_X8_159 : MFv RX8 159 yX8_told cX8_told 1 (some (.object "HedgehogBorder$Walker")) 0 := ⟨⟨lg_in mw_218 rfl, lg_in mw_167 rfl, by decide +kernel, Or.inl (lg_in mw_219 rfl)⟩, lg_in mw_220 rfl, lg_in mw_221 rfl⟩
theorem mw_222 : Cond.code yX7_trackAt cX7_trackAt 3 (some .int) ∈ lw_tbl := List.mem_of_getElem? (i := 530) (by decide +kernel)
theorem mw_223 : Cond.methodLinkNest RX8 163 yX7_trackAt "HedgehogBorder" ∈ lw_tbl := List.mem_of_getElem? (i := 527) (by decide +kernel)
theorem mw_224 : Cond.instanceMethod yX7_trackAt ∈ lw_tbl := List.mem_of_getElem? (i := 529) (by decide +kernel)
theorem mw_225 : Cond.selects RX7 yX7_trackAt yX7_trackAt ∈ lw_tbl := List.mem_of_getElem? (i := 20) (by decide +kernel)
theorem mf_X8_163 : MFv RX8 163 yX7_trackAt cX7_trackAt 3 (some .int) 2 := ⟨⟨lg_in mw_222 rfl, lg_in mw_84 rfl, by decide +kernel, Or.inr ⟨_, mw_223⟩⟩, lg_in mw_224 rfl, lg_in mw_225 rfl⟩
theorem mw_226 : Cond.fieldLinkNest RX8 167 "HedgehogBorder$Walker" "gone" "[I" "HedgehogBorder" ∈ lw_tbl := List.mem_of_getElem? (i := 235) (by decide +kernel)
theorem fg_X8_167 : FG RX8 167 7 6 := ⟨_, _, _, rfl, Nat.le_of_ble_eq_true rfl, inX7, Or.inr ⟨_, mw_226⟩⟩
theorem mw_227 : Cond.fieldLinkNest RX8 170 "HedgehogBorder$Land" "columns" "I" "HedgehogBorder" ∈ lw_tbl := List.mem_of_getElem? (i := 151) (by decide +kernel)
theorem fg_X8_170 : FG RX8 170 3 7 := ⟨_, _, _, rfl, Nat.le_of_ble_eq_true rfl, inX3, Or.inr ⟨_, mw_227⟩⟩
theorem mw_228 : Cond.fieldLinkNest RX8 173 "HedgehogBorder$Walker" "lines" "[I" "HedgehogBorder" ∈ lw_tbl := List.mem_of_getElem? (i := 238) (by decide +kernel)
theorem fg_X8_173 : FG RX8 173 7 8 := ⟨_, _, _, rfl, Nat.le_of_ble_eq_true rfl, inX7, Or.inr ⟨_, mw_228⟩⟩
theorem mw_229 : Cond.methodLinkNest RX8 176 yX7_realmOf "HedgehogBorder" ∈ lw_tbl := List.mem_of_getElem? (i := 546) (by decide +kernel)
theorem mf_X8_176 : MFv RX8 176 yX7_realmOf cX7_realmOf 5 (some .int) 2 := ⟨⟨lg_in mw_92 rfl, lg_in mw_84 rfl, by decide +kernel, Or.inr ⟨_, mw_229⟩⟩, lg_in mw_94 rfl, lg_in mw_95 rfl⟩
theorem mw_230 : Cond.fieldLinkNest RX8 179 "HedgehogBorder$Houses" "number" "I" "HedgehogBorder" ∈ lw_tbl := List.mem_of_getElem? (i := 186) (by decide +kernel)
theorem fg_X8_179 : FG RX8 179 1 3 := ⟨_, _, _, rfl, Nat.le_of_ble_eq_true rfl, inX1, Or.inr ⟨_, mw_230⟩⟩
theorem mw_231 : Cond.code yX7_walkNights cX7_walkNights 3 none ∈ lw_tbl := List.mem_of_getElem? (i := 506) (by decide +kernel)
theorem mw_232 : Cond.methodLinkNest RX8 180 yX7_walkNights "HedgehogBorder" ∈ lw_tbl := List.mem_of_getElem? (i := 503) (by decide +kernel)
theorem mw_233 : Cond.instanceMethod yX7_walkNights ∈ lw_tbl := List.mem_of_getElem? (i := 505) (by decide +kernel)
theorem mw_234 : Cond.selects RX7 yX7_walkNights yX7_walkNights ∈ lw_tbl := List.mem_of_getElem? (i := 14) (by decide +kernel)
theorem mf_X8_180 : MFv RX8 180 yX7_walkNights cX7_walkNights 3 none 1 := ⟨⟨lg_in mw_231 rfl, lg_in mw_84 rfl, by decide +kernel, Or.inr ⟨_, mw_232⟩⟩, lg_in mw_233 rfl, lg_in mw_234 rfl⟩
theorem mw_235 : Cond.code yX8_isQuestion cX8_isQuestion 4 (some .boolean) ∈ lw_tbl := List.mem_of_getElem? (i := 573) (by decide +kernel)
theorem mw_236 : Cond.methodLink RX8 183 yX8_isQuestion ∈ lw_tbl := List.mem_of_getElem? (i := 570) (by decide +kernel)
theorem mw_237 : Cond.instanceMethod yX8_isQuestion ∈ lw_tbl := List.mem_of_getElem? (i := 572) (by decide +kernel)
theorem mw_238 : Cond.selects RX8 yX8_isQuestion yX8_isQuestion ∈ lw_tbl := List.mem_of_getElem? (i := 22) (by decide +kernel)
theorem mf_X8_183 : MFv RX8 183 yX8_isQuestion cX8_isQuestion 4 (some .boolean) 3 := ⟨⟨lg_in mw_235 rfl, lg_in mw_167 rfl, by decide +kernel, Or.inl (lg_in mw_236 rfl)⟩, lg_in mw_237 rfl, lg_in mw_238 rfl⟩
theorem mw_239 : Cond.code yX8_planBowls cX8_planBowls 5 none ∈ lw_tbl := List.mem_of_getElem? (i := 577) (by decide +kernel)
theorem mw_240 : Cond.methodLink RX8 186 yX8_planBowls ∈ lw_tbl := List.mem_of_getElem? (i := 574) (by decide +kernel)
theorem mw_241 : Cond.instanceMethod yX8_planBowls ∈ lw_tbl := List.mem_of_getElem? (i := 576) (by decide +kernel)
theorem mw_242 : Cond.selects RX8 yX8_planBowls yX8_planBowls ∈ lw_tbl := List.mem_of_getElem? (i := 23) (by decide +kernel)
theorem mf_X8_186 : MFv RX8 186 yX8_planBowls cX8_planBowls 5 none 3 := ⟨⟨lg_in mw_239 rfl, lg_in mw_167 rfl, by decide +kernel, Or.inl (lg_in mw_240 rfl)⟩, lg_in mw_241 rfl, lg_in mw_242 rfl⟩
theorem mw_243 : Cond.code yX2_told cX2_told 2 (some .int) ∈ lw_tbl := List.mem_of_getElem? (i := 598) (by decide +kernel)
theorem mw_244 : Cond.methodLinkNest RX8 190 yX2_told "HedgehogBorder" ∈ lw_tbl := List.mem_of_getElem? (i := 595) (by decide +kernel)
theorem mw_245 : Cond.instanceMethod yX2_told ∈ lw_tbl := List.mem_of_getElem? (i := 597) (by decide +kernel)
theorem mw_246 : Cond.selects RX2 yX2_told yX2_told ∈ lw_tbl := List.mem_of_getElem? (i := 28) (by decide +kernel)
theorem mf_X8_190 : MFv RX8 190 yX2_told cX2_told 2 (some .int) 1 := ⟨⟨lg_in mw_243 rfl, lg_in mw_149 rfl, by decide +kernel, Or.inr ⟨_, mw_244⟩⟩, lg_in mw_245 rfl, lg_in mw_246 rfl⟩
theorem mw_247 : Cond.code yX7_becomeLike cX7_becomeLike 2 none ∈ lw_tbl := List.mem_of_getElem? (i := 581) (by decide +kernel)
theorem mw_248 : Cond.methodLinkNest RX8 192 yX7_becomeLike "HedgehogBorder" ∈ lw_tbl := List.mem_of_getElem? (i := 578) (by decide +kernel)
theorem mw_249 : Cond.instanceMethod yX7_becomeLike ∈ lw_tbl := List.mem_of_getElem? (i := 580) (by decide +kernel)
theorem mw_250 : Cond.selects RX7 yX7_becomeLike yX7_becomeLike ∈ lw_tbl := List.mem_of_getElem? (i := 24) (by decide +kernel)
theorem mf_X8_192 : MFv RX8 192 yX7_becomeLike cX7_becomeLike 2 none 1 := ⟨⟨lg_in mw_247 rfl, lg_in mw_84 rfl, by decide +kernel, Or.inr ⟨_, mw_248⟩⟩, lg_in mw_249 rfl, lg_in mw_250 rfl⟩
theorem mw_251 : Cond.fieldLinkNest RX8 196 "HedgehogBorder$Walker" "raked" "I" "HedgehogBorder" ∈ lw_tbl := List.mem_of_getElem? (i := 246) (by decide +kernel)
theorem fg_X8_196 : FG RX8 196 7 12 := ⟨_, _, _, rfl, Nat.le_of_ble_eq_true rfl, inX7, Or.inr ⟨_, mw_251⟩⟩
theorem mw_252 : Cond.code yX1_standOn cX1_standOn 3 (some .boolean) ∈ lw_tbl := List.mem_of_getElem? (i := 610) (by decide +kernel)
theorem mw_253 : Cond.methodLinkNest RX8 199 yX1_standOn "HedgehogBorder" ∈ lw_tbl := List.mem_of_getElem? (i := 607) (by decide +kernel)
theorem mw_254 : Cond.instanceMethod yX1_standOn ∈ lw_tbl := List.mem_of_getElem? (i := 609) (by decide +kernel)
theorem mw_255 : Cond.selects RX1 yX1_standOn yX1_standOn ∈ lw_tbl := List.mem_of_getElem? (i := 29) (by decide +kernel)
theorem mf_X8_199 : MFv RX8 199 yX1_standOn cX1_standOn 3 (some .boolean) 1 := ⟨⟨lg_in mw_252 rfl, lg_in mw_10 rfl, by decide +kernel, Or.inr ⟨_, mw_253⟩⟩, lg_in mw_254 rfl, lg_in mw_255 rfl⟩
theorem mw_256 : Cond.code yX7_nightsIn cX7_nightsIn 5 (some .int) ∈ lw_tbl := List.mem_of_getElem? (i := 614) (by decide +kernel)
theorem mw_257 : Cond.methodLinkNest RX8 202 yX7_nightsIn "HedgehogBorder" ∈ lw_tbl := List.mem_of_getElem? (i := 611) (by decide +kernel)
theorem mw_258 : Cond.instanceMethod yX7_nightsIn ∈ lw_tbl := List.mem_of_getElem? (i := 613) (by decide +kernel)
theorem mw_259 : Cond.selects RX7 yX7_nightsIn yX7_nightsIn ∈ lw_tbl := List.mem_of_getElem? (i := 30) (by decide +kernel)
theorem mf_X8_202 : MFv RX8 202 yX7_nightsIn cX7_nightsIn 5 (some .int) 2 := ⟨⟨lg_in mw_256 rfl, lg_in mw_84 rfl, by decide +kernel, Or.inr ⟨_, mw_257⟩⟩, lg_in mw_258 rfl, lg_in mw_259 rfl⟩
theorem mw_260 : Cond.fieldLinkNest RX8 205 "HedgehogBorder$Laid" "number" "I" "HedgehogBorder" ∈ lw_tbl := List.mem_of_getElem? (i := 282) (by decide +kernel)
theorem fg_X8_205 : FG RX8 205 2 0 := ⟨_, _, _, rfl, Nat.le_of_ble_eq_true rfl, inX2, Or.inr ⟨_, mw_260⟩⟩
theorem mw_261 : Cond.code yX8_planOne cX8_planOne 5 none ∈ lw_tbl := List.mem_of_getElem? (i := 585) (by decide +kernel)
theorem mw_262 : Cond.methodLink RX8 206 yX8_planOne ∈ lw_tbl := List.mem_of_getElem? (i := 582) (by decide +kernel)
theorem mw_263 : Cond.instanceMethod yX8_planOne ∈ lw_tbl := List.mem_of_getElem? (i := 584) (by decide +kernel)
theorem mw_264 : Cond.selects RX8 yX8_planOne yX8_planOne ∈ lw_tbl := List.mem_of_getElem? (i := 25) (by decide +kernel)
theorem mf_X8_206 : MFv RX8 206 yX8_planOne cX8_planOne 5 none 3 := ⟨⟨lg_in mw_261 rfl, lg_in mw_167 rfl, by decide +kernel, Or.inl (lg_in mw_262 rfl)⟩, lg_in mw_263 rfl, lg_in mw_264 rfl⟩
theorem mw_265 : Cond.code yX8_planTwo cX8_planTwo 6 none ∈ lw_tbl := List.mem_of_getElem? (i := 594) (by decide +kernel)
theorem mw_266 : Cond.methodLink RX8 209 yX8_planTwo ∈ lw_tbl := List.mem_of_getElem? (i := 591) (by decide +kernel)
theorem mw_267 : Cond.instanceMethod yX8_planTwo ∈ lw_tbl := List.mem_of_getElem? (i := 593) (by decide +kernel)
theorem mw_268 : Cond.selects RX8 yX8_planTwo yX8_planTwo ∈ lw_tbl := List.mem_of_getElem? (i := 27) (by decide +kernel)
theorem mf_X8_209 : MFv RX8 209 yX8_planTwo cX8_planTwo 6 none 3 := ⟨⟨lg_in mw_265 rfl, lg_in mw_167 rfl, by decide +kernel, Or.inl (lg_in mw_266 rfl)⟩, lg_in mw_267 rfl, lg_in mw_268 rfl⟩
theorem mw_269 : Cond.code yX7_isDrawnBy cX7_isDrawnBy 6 (some .boolean) ∈ lw_tbl := List.mem_of_getElem? (i := 589) (by decide +kernel)
theorem mw_270 : Cond.methodLinkNest RX8 212 yX7_isDrawnBy "HedgehogBorder" ∈ lw_tbl := List.mem_of_getElem? (i := 586) (by decide +kernel)
theorem mw_271 : Cond.instanceMethod yX7_isDrawnBy ∈ lw_tbl := List.mem_of_getElem? (i := 588) (by decide +kernel)
theorem mw_272 : Cond.selects RX7 yX7_isDrawnBy yX7_isDrawnBy ∈ lw_tbl := List.mem_of_getElem? (i := 26) (by decide +kernel)
theorem mf_X8_212 : MFv RX8 212 yX7_isDrawnBy cX7_isDrawnBy 6 (some .boolean) 5 := ⟨⟨lg_in mw_269 rfl, lg_in mw_84 rfl, by decide +kernel, Or.inr ⟨_, mw_270⟩⟩, lg_in mw_271 rfl, lg_in mw_272 rfl⟩
theorem mw_273 : Cond.fieldLinkNest RX8 216 "HedgehogBorder$Laid" "one" "I" "HedgehogBorder" ∈ lw_tbl := List.mem_of_getElem? (i := 284) (by decide +kernel)
theorem fg_X8_216 : FG RX8 216 2 1 := ⟨_, _, _, rfl, Nat.le_of_ble_eq_true rfl, inX2, Or.inr ⟨_, mw_273⟩⟩
theorem mw_274 : Cond.fieldLinkNest RX8 219 "HedgehogBorder$Laid" "two" "I" "HedgehogBorder" ∈ lw_tbl := List.mem_of_getElem? (i := 286) (by decide +kernel)
theorem fg_X8_219 : FG RX8 219 2 2 := ⟨_, _, _, rfl, Nat.le_of_ble_eq_true rfl, inX2, Or.inr ⟨_, mw_274⟩⟩
theorem mw_275 : Cond.fieldLinkNest RX8 222 "HedgehogBorder$Walker" "present" "I" "HedgehogBorder" ∈ lw_tbl := List.mem_of_getElem? (i := 244) (by decide +kernel)
theorem fg_X8_222 : FG RX8 222 7 11 := ⟨_, _, _, rfl, Nat.le_of_ble_eq_true rfl, inX7, Or.inr ⟨_, mw_275⟩⟩
theorem mw_276 : Cond.code yX8_agreesWithSights cX8_agreesWithSights 3 (some .boolean) ∈ lw_tbl := List.mem_of_getElem? (i := 630) (by decide +kernel)
theorem mw_277 : Cond.methodLink RX8 225 yX8_agreesWithSights ∈ lw_tbl := List.mem_of_getElem? (i := 627) (by decide +kernel)
theorem mw_278 : Cond.instanceMethod yX8_agreesWithSights ∈ lw_tbl := List.mem_of_getElem? (i := 629) (by decide +kernel)
theorem mw_279 : Cond.selects RX8 yX8_agreesWithSights yX8_agreesWithSights ∈ lw_tbl := List.mem_of_getElem? (i := 31) (by decide +kernel)
theorem mf_X8_225 : MFv RX8 225 yX8_agreesWithSights cX8_agreesWithSights 3 (some .boolean) 0 := ⟨⟨lg_in mw_276 rfl, lg_in mw_167 rfl, by decide +kernel, Or.inl (lg_in mw_277 rfl)⟩, lg_in mw_278 rfl, lg_in mw_279 rfl⟩
theorem mw_280 : Cond.code yX8_tallyStarts cX8_tallyStarts 5 none ∈ lw_tbl := List.mem_of_getElem? (i := 642) (by decide +kernel)
theorem mw_281 : Cond.methodLink RX8 229 yX8_tallyStarts ∈ lw_tbl := List.mem_of_getElem? (i := 639) (by decide +kernel)
theorem mw_282 : Cond.instanceMethod yX8_tallyStarts ∈ lw_tbl := List.mem_of_getElem? (i := 641) (by decide +kernel)
theorem mw_283 : Cond.selects RX8 yX8_tallyStarts yX8_tallyStarts ∈ lw_tbl := List.mem_of_getElem? (i := 32) (by decide +kernel)
theorem mf_X8_229 : MFv RX8 229 yX8_tallyStarts cX8_tallyStarts 5 none 1 := ⟨⟨lg_in mw_280 rfl, lg_in mw_167 rfl, by decide +kernel, Or.inl (lg_in mw_281 rfl)⟩, lg_in mw_282 rfl, lg_in mw_283 rfl⟩
theorem mw_284 : Cond.methodLink RX8 232 Lib.Math.max.name ∈ lw_tbl := List.mem_of_getElem? (i := 646) (by decide +kernel)
theorem mw_285 : Cond.static Lib.Math.max.name ∈ lw_tbl := List.mem_of_getElem? (i := 647) (by decide +kernel)
theorem mw_286 : Cond.code Lib.Math.max.name Lib.Math.max.code 2 (some .int) ∈ lw_tbl := List.mem_of_getElem? (i := 648) (by decide +kernel)
theorem mw_287 : Cond.constantLong RX8 237 (-9223372036854775806) ∈ lw_tbl := List.mem_of_getElem? (i := 653) (by decide +kernel)
theorem mw_288 : Cond.code yX8_weighChances cX8_weighChances 8 none ∈ lw_tbl := List.mem_of_getElem? (i := 657) (by decide +kernel)
theorem mw_289 : Cond.methodLink RX8 239 yX8_weighChances ∈ lw_tbl := List.mem_of_getElem? (i := 654) (by decide +kernel)
theorem mw_290 : Cond.instanceMethod yX8_weighChances ∈ lw_tbl := List.mem_of_getElem? (i := 656) (by decide +kernel)
theorem mw_291 : Cond.selects RX8 yX8_weighChances yX8_weighChances ∈ lw_tbl := List.mem_of_getElem? (i := 33) (by decide +kernel)
theorem mf_X8_239 : MFv RX8 239 yX8_weighChances cX8_weighChances 8 none 3 := ⟨⟨lg_in mw_288 rfl, lg_in mw_167 rfl, by decide +kernel, Or.inl (lg_in mw_289 rfl)⟩, lg_in mw_290 rfl, lg_in mw_291 rfl⟩
theorem mw_292 : Cond.code yX0_reduce cX0_reduce 3 none ∈ lw_tbl := List.mem_of_getElem? (i := 682) (by decide +kernel)
theorem mw_293 : Cond.methodLinkNest RX8 242 yX0_reduce "HedgehogBorder" ∈ lw_tbl := List.mem_of_getElem? (i := 679) (by decide +kernel)
theorem mw_294 : Cond.instanceMethod yX0_reduce ∈ lw_tbl := List.mem_of_getElem? (i := 681) (by decide +kernel)
theorem mw_295 : Cond.selects RX0 yX0_reduce yX0_reduce ∈ lw_tbl := List.mem_of_getElem? (i := 36) (by decide +kernel)
theorem mf_X8_242 : MFv RX8 242 yX0_reduce cX0_reduce 3 none 1 := ⟨⟨lg_in mw_292 rfl, lg_in mw_154 rfl, by decide +kernel, Or.inr ⟨_, mw_293⟩⟩, lg_in mw_294 rfl, lg_in mw_295 rfl⟩
theorem mw_296 : Cond.fieldLinkNest RX8 245 "HedgehogBorder$Chances" "above" "J" "HedgehogBorder" ∈ lw_tbl := List.mem_of_getElem? (i := 305) (by decide +kernel)
theorem fg_X8_245 : FG RX8 245 0 2 := ⟨_, _, _, rfl, Nat.le_of_ble_eq_true rfl, inX0, Or.inr ⟨_, mw_296⟩⟩
theorem mw_297 : Cond.fieldLinkNest RX8 249 "HedgehogBorder$Chances" "below" "J" "HedgehogBorder" ∈ lw_tbl := List.mem_of_getElem? (i := 307) (by decide +kernel)
theorem fg_X8_249 : FG RX8 249 0 3 := ⟨_, _, _, rfl, Nat.le_of_ble_eq_true rfl, inX0, Or.inr ⟨_, mw_297⟩⟩
theorem mw_298 : Cond.methodLinkNest RX8 252 yX7_firstCell "HedgehogBorder" ∈ lw_tbl := List.mem_of_getElem? (i := 688) (by decide +kernel)
theorem mf_X8_252 : MFv RX8 252 yX7_firstCell cX7_firstCell 2 (some .int) 0 := ⟨⟨lg_in mw_105 rfl, lg_in mw_84 rfl, by decide +kernel, Or.inr ⟨_, mw_298⟩⟩, lg_in mw_107 rfl, lg_in mw_108 rfl⟩
theorem mw_299 : Cond.fieldLinkNest RX8 256 "HedgehogBorder$Land" "ways" "[I" "HedgehogBorder" ∈ lw_tbl := List.mem_of_getElem? (i := 140) (by decide +kernel)
theorem fg_X8_256 : FG RX8 256 3 3 := ⟨_, _, _, rfl, Nat.le_of_ble_eq_true rfl, inX3, Or.inr ⟨_, mw_299⟩⟩
theorem mw_300 : Cond.constant RX8 259 1103515245 ∈ lw_tbl := List.mem_of_getElem? (i := 689) (by decide +kernel)
theorem mw_301 : Cond.fieldLinkNest RX8 260 "HedgehogBorder$Land" "beside" "[I" "HedgehogBorder" ∈ lw_tbl := List.mem_of_getElem? (i := 143) (by decide +kernel)
theorem fg_X8_260 : FG RX8 260 3 4 := ⟨_, _, _, rfl, Nat.le_of_ble_eq_true rfl, inX3, Or.inr ⟨_, mw_301⟩⟩
theorem mw_302 : Cond.code yJ13_bitCount_95d88 cJ13_bitCount_95d88 2 (some .int) ∈ lw_tbl := List.mem_of_getElem? (i := 692) (by decide +kernel)
theorem mw_303 : Cond.initialized RJ13 ∈ lw_tbl := List.mem_of_getElem? (i := 95) (by decide +kernel)
theorem mw_304 : Cond.methodLink RX8 263 yJ13_bitCount_95d88 ∈ lw_tbl := List.mem_of_getElem? (i := 690) (by decide +kernel)
theorem mw_305 : Cond.static yJ13_bitCount_95d88 ∈ lw_tbl := List.mem_of_getElem? (i := 691) (by decide +kernel)
theorem mf_X8_263 : MFs RX8 263 yJ13_bitCount_95d88 cJ13_bitCount_95d88 2 (some .int) 1 := ⟨⟨lg_in mw_302 rfl, lg_in mw_303 rfl, by decide +kernel, Or.inl (lg_in mw_304 rfl)⟩, lg_in mw_305 rfl⟩
theorem mw_306 : Cond.fieldLinkNest RX8 269 "HedgehogBorder$Marks" "things" "[I" "HedgehogBorder" ∈ lw_tbl := List.mem_of_getElem? (i := 207) (by decide +kernel)
theorem fg_X8_269 : FG RX8 269 4 1 := ⟨_, _, _, rfl, Nat.le_of_ble_eq_true rfl, inX4, Or.inr ⟨_, mw_306⟩⟩
theorem mw_307 : Cond.fieldLinkNest RX8 272 "HedgehogBorder$Marks" "nights" "[I" "HedgehogBorder" ∈ lw_tbl := List.mem_of_getElem? (i := 204) (by decide +kernel)
theorem fg_X8_272 : FG RX8 272 4 0 := ⟨_, _, _, rfl, Nat.le_of_ble_eq_true rfl, inX4, Or.inr ⟨_, mw_307⟩⟩
theorem mw_308 : Cond.fieldLinkNest RX8 275 "HedgehogBorder$Marks" "realms" "[I" "HedgehogBorder" ∈ lw_tbl := List.mem_of_getElem? (i := 209) (by decide +kernel)
theorem fg_X8_275 : FG RX8 275 4 2 := ⟨_, _, _, rfl, Nat.le_of_ble_eq_true rfl, inX4, Or.inr ⟨_, mw_308⟩⟩
theorem mw_309 : Cond.methodLink RX8 278 yJ7_fill_53178 ∈ lw_tbl := List.mem_of_getElem? (i := 643) (by decide +kernel)
theorem mf_X8_278 : MFs RX8 278 yJ7_fill_53178 cJ7_fill_53178 4 none 2 := ⟨⟨lg_in mw_64 rfl, lg_in mw_65 rfl, by decide +kernel, Or.inl (lg_in mw_309 rfl)⟩, lg_in mw_67 rfl⟩
theorem mw_310 : Cond.code yX8_bowlsThatMatter cX8_bowlsThatMatter 4 (some .int) ∈ lw_tbl := List.mem_of_getElem? (i := 661) (by decide +kernel)
theorem mw_311 : Cond.methodLink RX8 284 yX8_bowlsThatMatter ∈ lw_tbl := List.mem_of_getElem? (i := 658) (by decide +kernel)
theorem mw_312 : Cond.instanceMethod yX8_bowlsThatMatter ∈ lw_tbl := List.mem_of_getElem? (i := 660) (by decide +kernel)
theorem mw_313 : Cond.selects RX8 yX8_bowlsThatMatter yX8_bowlsThatMatter ∈ lw_tbl := List.mem_of_getElem? (i := 34) (by decide +kernel)
theorem mf_X8_284 : MFv RX8 284 yX8_bowlsThatMatter cX8_bowlsThatMatter 4 (some .int) 1 := ⟨⟨lg_in mw_310 rfl, lg_in mw_167 rfl, by decide +kernel, Or.inl (lg_in mw_311 rfl)⟩, lg_in mw_312 rfl, lg_in mw_313 rfl⟩
theorem mw_314 : Cond.code yJ6_bitCount_0f7a4 cJ6_bitCount_0f7a4 1 (some .int) ∈ lw_tbl := List.mem_of_getElem? (i := 664) (by decide +kernel)
theorem mw_315 : Cond.initialized RJ6 ∈ lw_tbl := List.mem_of_getElem? (i := 94) (by decide +kernel)
theorem mw_316 : Cond.methodLink RX8 287 yJ6_bitCount_0f7a4 ∈ lw_tbl := List.mem_of_getElem? (i := 662) (by decide +kernel)
theorem mw_317 : Cond.static yJ6_bitCount_0f7a4 ∈ lw_tbl := List.mem_of_getElem? (i := 663) (by decide +kernel)
theorem mf_X8_287 : MFs RX8 287 yJ6_bitCount_0f7a4 cJ6_bitCount_0f7a4 1 (some .int) 1 := ⟨⟨lg_in mw_314 rfl, lg_in mw_315 rfl, by decide +kernel, Or.inl (lg_in mw_316 rfl)⟩, lg_in mw_317 rfl⟩
theorem mw_318 : Cond.fieldLinkNest RX8 291 "HedgehogBorder$Chances" "shares" "[J" "HedgehogBorder" ∈ lw_tbl := List.mem_of_getElem? (i := 301) (by decide +kernel)
theorem fg_X8_291 : FG RX8 291 0 0 := ⟨_, _, _, rfl, Nat.le_of_ble_eq_true rfl, inX0, Or.inr ⟨_, mw_318⟩⟩
theorem mw_319 : Cond.code yJ7_fill_d0a16 cJ7_fill_d0a16 5 none ∈ lw_tbl := List.mem_of_getElem? (i := 670) (by decide +kernel)
theorem mw_320 : Cond.methodLink RX8 295 yJ7_fill_d0a16 ∈ lw_tbl := List.mem_of_getElem? (i := 668) (by decide +kernel)
theorem mw_321 : Cond.static yJ7_fill_d0a16 ∈ lw_tbl := List.mem_of_getElem? (i := 669) (by decide +kernel)
theorem mf_X8_295 : MFs RX8 295 yJ7_fill_d0a16 cJ7_fill_d0a16 5 none 2 := ⟨⟨lg_in mw_319 rfl, lg_in mw_65 rfl, by decide +kernel, Or.inl (lg_in mw_320 rfl)⟩, lg_in mw_321 rfl⟩
theorem mw_322 : Cond.constantLong RX8 298 16 ∈ lw_tbl := List.mem_of_getElem? (i := 671) (by decide +kernel)
theorem mw_323 : Cond.code yX8_power cX8_power 6 (some .long) ∈ lw_tbl := List.mem_of_getElem? (i := 674) (by decide +kernel)
theorem mw_324 : Cond.methodLink RX8 300 yX8_power ∈ lw_tbl := List.mem_of_getElem? (i := 672) (by decide +kernel)
theorem mw_325 : Cond.static yX8_power ∈ lw_tbl := List.mem_of_getElem? (i := 673) (by decide +kernel)
theorem mf_X8_300 : MFs RX8 300 yX8_power cX8_power 6 (some .long) 2 := ⟨⟨lg_in mw_323 rfl, lg_in mw_167 rfl, by decide +kernel, Or.inl (lg_in mw_324 rfl)⟩, lg_in mw_325 rfl⟩
theorem mw_326 : Cond.fieldLinkNest RX8 304 "HedgehogBorder$Chances" "whole" "J" "HedgehogBorder" ∈ lw_tbl := List.mem_of_getElem? (i := 303) (by decide +kernel)
theorem fg_X8_304 : FG RX8 304 0 1 := ⟨_, _, _, rfl, Nat.le_of_ble_eq_true rfl, inX0, Or.inr ⟨_, mw_326⟩⟩
theorem mw_327 : Cond.code yX8_shareOut cX8_shareOut 6 none ∈ lw_tbl := List.mem_of_getElem? (i := 678) (by decide +kernel)
theorem mw_328 : Cond.methodLink RX8 307 yX8_shareOut ∈ lw_tbl := List.mem_of_getElem? (i := 675) (by decide +kernel)
theorem mw_329 : Cond.instanceMethod yX8_shareOut ∈ lw_tbl := List.mem_of_getElem? (i := 677) (by decide +kernel)
theorem mw_330 : Cond.selects RX8 yX8_shareOut yX8_shareOut ∈ lw_tbl := List.mem_of_getElem? (i := 35) (by decide +kernel)
theorem mf_X8_307 : MFv RX8 307 yX8_shareOut cX8_shareOut 6 none 3 := ⟨⟨lg_in mw_327 rfl, lg_in mw_167 rfl, by decide +kernel, Or.inl (lg_in mw_328 rfl)⟩, lg_in mw_329 rfl, lg_in mw_330 rfl⟩
theorem mw_331 : Cond.code yX5_begin cX5_begin 3 none ∈ lw_tbl := List.mem_of_getElem? (i := 703) (by decide +kernel)
theorem mw_332 : Cond.methodLinkNest RX8 311 yX5_begin "HedgehogBorder" ∈ lw_tbl := List.mem_of_getElem? (i := 700) (by decide +kernel)
theorem mw_333 : Cond.instanceMethod yX5_begin ∈ lw_tbl := List.mem_of_getElem? (i := 702) (by decide +kernel)
theorem mw_334 : Cond.selects RX5 yX5_begin yX5_begin ∈ lw_tbl := List.mem_of_getElem? (i := 37) (by decide +kernel)
theorem mf_X8_311 : MFv RX8 311 yX5_begin cX5_begin 3 none 2 := ⟨⟨lg_in mw_331 rfl, lg_in mw_161 rfl, by decide +kernel, Or.inr ⟨_, mw_332⟩⟩, lg_in mw_333 rfl, lg_in mw_334 rfl⟩
theorem mw_335 : Cond.code yX5_wrongWith cX5_wrongWith 3 (some .int) ∈ lw_tbl := List.mem_of_getElem? (i := 716) (by decide +kernel)
theorem mw_336 : Cond.methodLinkNest RX8 315 yX5_wrongWith "HedgehogBorder" ∈ lw_tbl := List.mem_of_getElem? (i := 713) (by decide +kernel)
theorem mw_337 : Cond.instanceMethod yX5_wrongWith ∈ lw_tbl := List.mem_of_getElem? (i := 715) (by decide +kernel)
theorem mw_338 : Cond.selects RX5 yX5_wrongWith yX5_wrongWith ∈ lw_tbl := List.mem_of_getElem? (i := 38) (by decide +kernel)
theorem mf_X8_315 : MFv RX8 315 yX5_wrongWith cX5_wrongWith 3 (some .int) 2 := ⟨⟨lg_in mw_335 rfl, lg_in mw_161 rfl, by decide +kernel, Or.inr ⟨_, mw_336⟩⟩, lg_in mw_337 rfl, lg_in mw_338 rfl⟩
theorem mw_339 : Cond.code yX5_keep cX5_keep 3 none ∈ lw_tbl := List.mem_of_getElem? (i := 720) (by decide +kernel)
theorem mw_340 : Cond.methodLinkNest RX8 318 yX5_keep "HedgehogBorder" ∈ lw_tbl := List.mem_of_getElem? (i := 717) (by decide +kernel)
theorem mw_341 : Cond.instanceMethod yX5_keep ∈ lw_tbl := List.mem_of_getElem? (i := 719) (by decide +kernel)
theorem mw_342 : Cond.selects RX5 yX5_keep yX5_keep ∈ lw_tbl := List.mem_of_getElem? (i := 39) (by decide +kernel)
theorem mf_X8_318 : MFv RX8 318 yX5_keep cX5_keep 3 none 2 := ⟨⟨lg_in mw_339 rfl, lg_in mw_161 rfl, by decide +kernel, Or.inr ⟨_, mw_340⟩⟩, lg_in mw_341 rfl, lg_in mw_342 rfl⟩
theorem mw_343 : Cond.constant RX8 321 (-2147483648) ∈ lw_tbl := List.mem_of_getElem? (i := 725) (by decide +kernel)
theorem mw_344 : Cond.fieldLinkNest RX8 322 "HedgehogBorder$Sheet" "form" "I" "HedgehogBorder" ∈ lw_tbl := List.mem_of_getElem? (i := 329) (by decide +kernel)
theorem fg_X8_322 : FG RX8 322 5 2 := ⟨_, _, _, rfl, Nat.le_of_ble_eq_true rfl, inX5, Or.inr ⟨_, mw_344⟩⟩
theorem mw_345 : Cond.code yX5_hasItems cX5_hasItems 3 (some .boolean) ∈ lw_tbl := List.mem_of_getElem? (i := 733) (by decide +kernel)
theorem mw_346 : Cond.methodLinkNest RX8 325 yX5_hasItems "HedgehogBorder" ∈ lw_tbl := List.mem_of_getElem? (i := 730) (by decide +kernel)
theorem mw_347 : Cond.instanceMethod yX5_hasItems ∈ lw_tbl := List.mem_of_getElem? (i := 732) (by decide +kernel)
theorem mw_348 : Cond.selects RX5 yX5_hasItems yX5_hasItems ∈ lw_tbl := List.mem_of_getElem? (i := 40) (by decide +kernel)
theorem mf_X8_325 : MFv RX8 325 yX5_hasItems cX5_hasItems 3 (some .boolean) 2 := ⟨⟨lg_in mw_345 rfl, lg_in mw_161 rfl, by decide +kernel, Or.inr ⟨_, mw_346⟩⟩, lg_in mw_347 rfl, lg_in mw_348 rfl⟩
theorem mw_349 : Cond.methodLink RX8 328 arraycopyName ∈ lw_tbl := List.mem_of_getElem? (i := 734) (by decide +kernel)
theorem mw_350 : Cond.native arraycopyName ∈ lw_tbl := List.mem_of_getElem? (i := 736) (by decide +kernel)
theorem mw_351 : Cond.static arraycopyName ∈ lw_tbl := List.mem_of_getElem? (i := 735) (by decide +kernel)
theorem mw_352 : Cond.initialized "java/lang/System" ∈ lw_tbl := List.mem_of_getElem? (i := 96) (by decide +kernel)
theorem mw_353 : Cond.methodLink RX8 334 Lib.Math.min.name ∈ lw_tbl := List.mem_of_getElem? (i := 741) (by decide +kernel)
theorem mw_354 : Cond.constantLong RX8 337 17 ∈ lw_tbl := List.mem_of_getElem? (i := 750) (by decide +kernel)
theorem mw_355 : Cond.code yX8_count cX8_count 2 (some .int) ∈ lw_tbl := List.mem_of_getElem? (i := 745) (by decide +kernel)
theorem mw_356 : Cond.methodLink RX8 339 yX8_count ∈ lw_tbl := List.mem_of_getElem? (i := 751) (by decide +kernel)
theorem mw_357 : Cond.instanceMethod yX8_count ∈ lw_tbl := List.mem_of_getElem? (i := 743) (by decide +kernel)
theorem mw_358 : Cond.selects RX8 yX8_count yX8_count ∈ lw_tbl := List.mem_of_getElem? (i := 744) (by decide +kernel)
theorem mf_X8_339 : MFv RX8 339 yX8_count cX8_count 2 (some .int) 1 := ⟨⟨lg_in mw_355 rfl, lg_in mw_167 rfl, by decide +kernel, Or.inl (lg_in mw_356 rfl)⟩, lg_in mw_357 rfl, lg_in mw_358 rfl⟩
theorem mw_359 : Cond.code yX8_mix cX8_mix 4 (some .long) ∈ lw_tbl := List.mem_of_getElem? (i := 754) (by decide +kernel)
theorem mw_360 : Cond.methodLink RX8 342 yX8_mix ∈ lw_tbl := List.mem_of_getElem? (i := 752) (by decide +kernel)
theorem mw_361 : Cond.static yX8_mix ∈ lw_tbl := List.mem_of_getElem? (i := 753) (by decide +kernel)
theorem mf_X8_342 : MFs RX8 342 yX8_mix cX8_mix 4 (some .long) 2 := ⟨⟨lg_in mw_359 rfl, lg_in mw_167 rfl, by decide +kernel, Or.inl (lg_in mw_360 rfl)⟩, lg_in mw_361 rfl⟩
theorem mw_362 : Cond.code yX8_fault cX8_fault 2 (some .int) ∈ lw_tbl := List.mem_of_getElem? (i := 447) (by decide +kernel)
theorem mw_363 : Cond.methodLink RX8 346 yX8_fault ∈ lw_tbl := List.mem_of_getElem? (i := 756) (by decide +kernel)
theorem mw_364 : Cond.instanceMethod yX8_fault ∈ lw_tbl := List.mem_of_getElem? (i := 445) (by decide +kernel)
theorem mw_365 : Cond.selects RX8 yX8_fault yX8_fault ∈ lw_tbl := List.mem_of_getElem? (i := 446) (by decide +kernel)
theorem mf_X8_346 : MFv RX8 346 yX8_fault cX8_fault 2 (some .int) 1 := ⟨⟨lg_in mw_362 rfl, lg_in mw_167 rfl, by decide +kernel, Or.inl (lg_in mw_363 rfl)⟩, lg_in mw_364 rfl, lg_in mw_365 rfl⟩
theorem mw_366 : Cond.code yX8_cell cX8_cell 2 (some .int) ∈ lw_tbl := List.mem_of_getElem? (i := 451) (by decide +kernel)
theorem mw_367 : Cond.methodLink RX8 349 yX8_cell ∈ lw_tbl := List.mem_of_getElem? (i := 757) (by decide +kernel)
theorem mw_368 : Cond.instanceMethod yX8_cell ∈ lw_tbl := List.mem_of_getElem? (i := 449) (by decide +kernel)
theorem mw_369 : Cond.selects RX8 yX8_cell yX8_cell ∈ lw_tbl := List.mem_of_getElem? (i := 450) (by decide +kernel)
theorem mf_X8_349 : MFv RX8 349 yX8_cell cX8_cell 2 (some .int) 1 := ⟨⟨lg_in mw_366 rfl, lg_in mw_167 rfl, by decide +kernel, Or.inl (lg_in mw_367 rfl)⟩, lg_in mw_368 rfl, lg_in mw_369 rfl⟩
theorem mw_370 : Cond.code yX8_realm cX8_realm 3 (some .int) ∈ lw_tbl := List.mem_of_getElem? (i := 545) (by decide +kernel)
theorem mw_371 : Cond.methodLink RX8 352 yX8_realm ∈ lw_tbl := List.mem_of_getElem? (i := 758) (by decide +kernel)
theorem mw_372 : Cond.instanceMethod yX8_realm ∈ lw_tbl := List.mem_of_getElem? (i := 543) (by decide +kernel)
theorem mw_373 : Cond.selects RX8 yX8_realm yX8_realm ∈ lw_tbl := List.mem_of_getElem? (i := 544) (by decide +kernel)
theorem mf_X8_352 : MFv RX8 352 yX8_realm cX8_realm 3 (some .int) 2 := ⟨⟨lg_in mw_370 rfl, lg_in mw_167 rfl, by decide +kernel, Or.inl (lg_in mw_371 rfl)⟩, lg_in mw_372 rfl, lg_in mw_373 rfl⟩
theorem mw_374 : Cond.code yX8_mixHouse cX8_mixHouse 6 (some .long) ∈ lw_tbl := List.mem_of_getElem? (i := 762) (by decide +kernel)
theorem mw_375 : Cond.methodLink RX8 355 yX8_mixHouse ∈ lw_tbl := List.mem_of_getElem? (i := 759) (by decide +kernel)
theorem mw_376 : Cond.instanceMethod yX8_mixHouse ∈ lw_tbl := List.mem_of_getElem? (i := 761) (by decide +kernel)
theorem mw_377 : Cond.selects RX8 yX8_mixHouse yX8_mixHouse ∈ lw_tbl := List.mem_of_getElem? (i := 41) (by decide +kernel)
theorem mf_X8_355 : MFv RX8 355 yX8_mixHouse cX8_mixHouse 6 (some .long) 2 := ⟨⟨lg_in mw_374 rfl, lg_in mw_167 rfl, by decide +kernel, Or.inl (lg_in mw_375 rfl)⟩, lg_in mw_376 rfl, lg_in mw_377 rfl⟩
theorem mw_378 : Cond.code yX8_mixNight cX8_mixNight 7 (some .long) ∈ lw_tbl := List.mem_of_getElem? (i := 770) (by decide +kernel)
theorem mw_379 : Cond.methodLink RX8 358 yX8_mixNight ∈ lw_tbl := List.mem_of_getElem? (i := 767) (by decide +kernel)
theorem mw_380 : Cond.instanceMethod yX8_mixNight ∈ lw_tbl := List.mem_of_getElem? (i := 769) (by decide +kernel)
theorem mw_381 : Cond.selects RX8 yX8_mixNight yX8_mixNight ∈ lw_tbl := List.mem_of_getElem? (i := 42) (by decide +kernel)
theorem mf_X8_358 : MFv RX8 358 yX8_mixNight cX8_mixNight 7 (some .long) 2 := ⟨⟨lg_in mw_378 rfl, lg_in mw_167 rfl, by decide +kernel, Or.inl (lg_in mw_379 rfl)⟩, lg_in mw_380 rfl, lg_in mw_381 rfl⟩
theorem mw_382 : Cond.code yX8_first cX8_first 5 (some .int) ∈ lw_tbl := List.mem_of_getElem? (i := 565) (by decide +kernel)
theorem mw_383 : Cond.methodLink RX8 361 yX8_first ∈ lw_tbl := List.mem_of_getElem? (i := 776) (by decide +kernel)
theorem mw_384 : Cond.instanceMethod yX8_first ∈ lw_tbl := List.mem_of_getElem? (i := 563) (by decide +kernel)
theorem mw_385 : Cond.selects RX8 yX8_first yX8_first ∈ lw_tbl := List.mem_of_getElem? (i := 564) (by decide +kernel)
theorem mf_X8_361 : MFv RX8 361 yX8_first cX8_first 5 (some .int) 1 := ⟨⟨lg_in mw_382 rfl, lg_in mw_167 rfl, by decide +kernel, Or.inl (lg_in mw_383 rfl)⟩, lg_in mw_384 rfl, lg_in mw_385 rfl⟩
theorem mw_386 : Cond.code yX8_live cX8_live 8 (some .int) ∈ lw_tbl := List.mem_of_getElem? (i := 606) (by decide +kernel)
theorem mw_387 : Cond.methodLink RX8 364 yX8_live ∈ lw_tbl := List.mem_of_getElem? (i := 777) (by decide +kernel)
theorem mw_388 : Cond.instanceMethod yX8_live ∈ lw_tbl := List.mem_of_getElem? (i := 604) (by decide +kernel)
theorem mw_389 : Cond.selects RX8 yX8_live yX8_live ∈ lw_tbl := List.mem_of_getElem? (i := 605) (by decide +kernel)
theorem mf_X8_364 : MFv RX8 364 yX8_live cX8_live 8 (some .int) 2 := ⟨⟨lg_in mw_386 rfl, lg_in mw_167 rfl, by decide +kernel, Or.inl (lg_in mw_387 rfl)⟩, lg_in mw_388 rfl, lg_in mw_389 rfl⟩
theorem mw_390 : Cond.code yX8_never cX8_never 3 (some .int) ∈ lw_tbl := List.mem_of_getElem? (i := 626) (by decide +kernel)
theorem mw_391 : Cond.methodLink RX8 367 yX8_never ∈ lw_tbl := List.mem_of_getElem? (i := 778) (by decide +kernel)
theorem mw_392 : Cond.instanceMethod yX8_never ∈ lw_tbl := List.mem_of_getElem? (i := 624) (by decide +kernel)
theorem mw_393 : Cond.selects RX8 yX8_never yX8_never ∈ lw_tbl := List.mem_of_getElem? (i := 625) (by decide +kernel)
theorem mf_X8_367 : MFv RX8 367 yX8_never cX8_never 3 (some .int) 0 := ⟨⟨lg_in mw_390 rfl, lg_in mw_167 rfl, by decide +kernel, Or.inl (lg_in mw_391 rfl)⟩, lg_in mw_392 rfl, lg_in mw_393 rfl⟩
theorem mw_394 : Cond.code yX8_began cX8_began 3 (some .int) ∈ lw_tbl := List.mem_of_getElem? (i := 634) (by decide +kernel)
theorem mw_395 : Cond.methodLink RX8 370 yX8_began ∈ lw_tbl := List.mem_of_getElem? (i := 779) (by decide +kernel)
theorem mw_396 : Cond.instanceMethod yX8_began ∈ lw_tbl := List.mem_of_getElem? (i := 632) (by decide +kernel)
theorem mw_397 : Cond.selects RX8 yX8_began yX8_began ∈ lw_tbl := List.mem_of_getElem? (i := 633) (by decide +kernel)
theorem mf_X8_370 : MFv RX8 370 yX8_began cX8_began 3 (some .int) 0 := ⟨⟨lg_in mw_394 rfl, lg_in mw_167 rfl, by decide +kernel, Or.inl (lg_in mw_395 rfl)⟩, lg_in mw_396 rfl, lg_in mw_397 rfl⟩
theorem mw_398 : Cond.code yX8_roam cX8_roam 10 (some .int) ∈ lw_tbl := List.mem_of_getElem? (i := 687) (by decide +kernel)
theorem mw_399 : Cond.methodLink RX8 373 yX8_roam ∈ lw_tbl := List.mem_of_getElem? (i := 780) (by decide +kernel)
theorem mw_400 : Cond.instanceMethod yX8_roam ∈ lw_tbl := List.mem_of_getElem? (i := 685) (by decide +kernel)
theorem mw_401 : Cond.selects RX8 yX8_roam yX8_roam ∈ lw_tbl := List.mem_of_getElem? (i := 686) (by decide +kernel)
theorem mf_X8_373 : MFv RX8 373 yX8_roam cX8_roam 10 (some .int) 3 := ⟨⟨lg_in mw_398 rfl, lg_in mw_167 rfl, by decide +kernel, Or.inl (lg_in mw_399 rfl)⟩, lg_in mw_400 rfl, lg_in mw_401 rfl⟩
theorem mw_402 : Cond.code yX8_house cX8_house 3 (some .int) ∈ lw_tbl := List.mem_of_getElem? (i := 455) (by decide +kernel)
theorem mw_403 : Cond.methodLink RX8 377 yX8_house ∈ lw_tbl := List.mem_of_getElem? (i := 763) (by decide +kernel)
theorem mw_404 : Cond.instanceMethod yX8_house ∈ lw_tbl := List.mem_of_getElem? (i := 453) (by decide +kernel)
theorem mw_405 : Cond.selects RX8 yX8_house yX8_house ∈ lw_tbl := List.mem_of_getElem? (i := 454) (by decide +kernel)
theorem mf_X8_377 : MFv RX8 377 yX8_house cX8_house 3 (some .int) 2 := ⟨⟨lg_in mw_402 rfl, lg_in mw_167 rfl, by decide +kernel, Or.inl (lg_in mw_403 rfl)⟩, lg_in mw_404 rfl, lg_in mw_405 rfl⟩
theorem mw_406 : Cond.code yX8_lies cX8_lies 3 (some .int) ∈ lw_tbl := List.mem_of_getElem? (i := 553) (by decide +kernel)
theorem mw_407 : Cond.methodLink RX8 380 yX8_lies ∈ lw_tbl := List.mem_of_getElem? (i := 764) (by decide +kernel)
theorem mw_408 : Cond.instanceMethod yX8_lies ∈ lw_tbl := List.mem_of_getElem? (i := 551) (by decide +kernel)
theorem mw_409 : Cond.selects RX8 yX8_lies yX8_lies ∈ lw_tbl := List.mem_of_getElem? (i := 552) (by decide +kernel)
theorem mf_X8_380 : MFv RX8 380 yX8_lies cX8_lies 3 (some .int) 2 := ⟨⟨lg_in mw_406 rfl, lg_in mw_167 rfl, by decide +kernel, Or.inl (lg_in mw_407 rfl)⟩, lg_in mw_408 rfl, lg_in mw_409 rfl⟩
theorem mw_410 : Cond.code yX8_changes cX8_changes 6 (some .int) ∈ lw_tbl := List.mem_of_getElem? (i := 557) (by decide +kernel)
theorem mw_411 : Cond.methodLink RX8 383 yX8_changes ∈ lw_tbl := List.mem_of_getElem? (i := 765) (by decide +kernel)
theorem mw_412 : Cond.instanceMethod yX8_changes ∈ lw_tbl := List.mem_of_getElem? (i := 555) (by decide +kernel)
theorem mw_413 : Cond.selects RX8 yX8_changes yX8_changes ∈ lw_tbl := List.mem_of_getElem? (i := 556) (by decide +kernel)
theorem mf_X8_383 : MFv RX8 383 yX8_changes cX8_changes 6 (some .int) 1 := ⟨⟨lg_in mw_410 rfl, lg_in mw_167 rfl, by decide +kernel, Or.inl (lg_in mw_411 rfl)⟩, lg_in mw_412 rfl, lg_in mw_413 rfl⟩
theorem mw_414 : Cond.code yX8_rake cX8_rake 5 (some .int) ∈ lw_tbl := List.mem_of_getElem? (i := 602) (by decide +kernel)
theorem mw_415 : Cond.methodLink RX8 386 yX8_rake ∈ lw_tbl := List.mem_of_getElem? (i := 766) (by decide +kernel)
theorem mw_416 : Cond.instanceMethod yX8_rake ∈ lw_tbl := List.mem_of_getElem? (i := 600) (by decide +kernel)
theorem mw_417 : Cond.selects RX8 yX8_rake yX8_rake ∈ lw_tbl := List.mem_of_getElem? (i := 601) (by decide +kernel)
theorem mf_X8_386 : MFv RX8 386 yX8_rake cX8_rake 5 (some .int) 3 := ⟨⟨lg_in mw_414 rfl, lg_in mw_167 rfl, by decide +kernel, Or.inl (lg_in mw_415 rfl)⟩, lg_in mw_416 rfl, lg_in mw_417 rfl⟩
theorem mw_418 : Cond.code yX8_at cX8_at 3 (some .int) ∈ lw_tbl := List.mem_of_getElem? (i := 498) (by decide +kernel)
theorem mw_419 : Cond.methodLink RX8 389 yX8_at ∈ lw_tbl := List.mem_of_getElem? (i := 771) (by decide +kernel)
theorem mw_420 : Cond.instanceMethod yX8_at ∈ lw_tbl := List.mem_of_getElem? (i := 496) (by decide +kernel)
theorem mw_421 : Cond.selects RX8 yX8_at yX8_at ∈ lw_tbl := List.mem_of_getElem? (i := 497) (by decide +kernel)
theorem mf_X8_389 : MFv RX8 389 yX8_at cX8_at 3 (some .int) 2 := ⟨⟨lg_in mw_418 rfl, lg_in mw_167 rfl, by decide +kernel, Or.inl (lg_in mw_419 rfl)⟩, lg_in mw_420 rfl, lg_in mw_421 rfl⟩
theorem mw_422 : Cond.code yX8_goes cX8_goes 2 (some .int) ∈ lw_tbl := List.mem_of_getElem? (i := 537) (by decide +kernel)
theorem mw_423 : Cond.methodLink RX8 392 yX8_goes ∈ lw_tbl := List.mem_of_getElem? (i := 772) (by decide +kernel)
theorem mw_424 : Cond.instanceMethod yX8_goes ∈ lw_tbl := List.mem_of_getElem? (i := 535) (by decide +kernel)
theorem mw_425 : Cond.selects RX8 yX8_goes yX8_goes ∈ lw_tbl := List.mem_of_getElem? (i := 536) (by decide +kernel)
theorem mf_X8_392 : MFv RX8 392 yX8_goes cX8_goes 2 (some .int) 1 := ⟨⟨lg_in mw_422 rfl, lg_in mw_167 rfl, by decide +kernel, Or.inl (lg_in mw_423 rfl)⟩, lg_in mw_424 rfl, lg_in mw_425 rfl⟩
theorem mw_426 : Cond.code yX8_ask cX8_ask 7 (some .int) ∈ lw_tbl := List.mem_of_getElem? (i := 638) (by decide +kernel)
theorem mw_427 : Cond.methodLink RX8 395 yX8_ask ∈ lw_tbl := List.mem_of_getElem? (i := 773) (by decide +kernel)
theorem mw_428 : Cond.instanceMethod yX8_ask ∈ lw_tbl := List.mem_of_getElem? (i := 636) (by decide +kernel)
theorem mw_429 : Cond.selects RX8 yX8_ask yX8_ask ∈ lw_tbl := List.mem_of_getElem? (i := 637) (by decide +kernel)
theorem mf_X8_395 : MFv RX8 395 yX8_ask cX8_ask 7 (some .int) 1 := ⟨⟨lg_in mw_426 rfl, lg_in mw_167 rfl, by decide +kernel, Or.inl (lg_in mw_427 rfl)⟩, lg_in mw_428 rfl, lg_in mw_429 rfl⟩
theorem mw_430 : Cond.code yX8_taxes cX8_taxes 7 (some .int) ∈ lw_tbl := List.mem_of_getElem? (i := 561) (by decide +kernel)
theorem mw_431 : Cond.methodLink RX8 398 yX8_taxes ∈ lw_tbl := List.mem_of_getElem? (i := 774) (by decide +kernel)
theorem mw_432 : Cond.instanceMethod yX8_taxes ∈ lw_tbl := List.mem_of_getElem? (i := 559) (by decide +kernel)
theorem mw_433 : Cond.selects RX8 yX8_taxes yX8_taxes ∈ lw_tbl := List.mem_of_getElem? (i := 560) (by decide +kernel)
theorem mf_X8_398 : MFv RX8 398 yX8_taxes cX8_taxes 7 (some .int) 2 := ⟨⟨lg_in mw_430 rfl, lg_in mw_167 rfl, by decide +kernel, Or.inl (lg_in mw_431 rfl)⟩, lg_in mw_432 rfl, lg_in mw_433 rfl⟩
theorem mw_434 : Cond.code yX8_line cX8_line 3 (some .int) ∈ lw_tbl := List.mem_of_getElem? (i := 541) (by decide +kernel)
theorem mw_435 : Cond.methodLink RX8 401 yX8_line ∈ lw_tbl := List.mem_of_getElem? (i := 775) (by decide +kernel)
theorem mw_436 : Cond.instanceMethod yX8_line ∈ lw_tbl := List.mem_of_getElem? (i := 539) (by decide +kernel)
theorem mw_437 : Cond.selects RX8 yX8_line yX8_line ∈ lw_tbl := List.mem_of_getElem? (i := 540) (by decide +kernel)
theorem mf_X8_401 : MFv RX8 401 yX8_line cX8_line 3 (some .int) 2 := ⟨⟨lg_in mw_434 rfl, lg_in mw_167 rfl, by decide +kernel, Or.inl (lg_in mw_435 rfl)⟩, lg_in mw_436 rfl, lg_in mw_437 rfl⟩
theorem mw_438 : Cond.constantLong RX8 404 31 ∈ lw_tbl := List.mem_of_getElem? (i := 755) (by decide +kernel)
theorem mw_439 : Cond.fieldLink RX9 7 "HedgehogBorderModel" "forms" "[I" ∈ lw_tbl := List.mem_of_getElem? (i := 787) (by decide +kernel)
theorem fg_X9_7 : FG RX9 7 9 0 := ⟨_, _, _, rfl, Nat.le_of_ble_eq_true rfl, inX9, Or.inl (lg_in mw_439 rfl)⟩
theorem ft_X9_0 : FT 9 0 (.array .int) true := ⟨_, _, _, tyX9, rfl, tyX9_ok, nmX9, rfl, by decide +kernel, rfl⟩
theorem mw_440 : Cond.fieldLink RX9 13 "HedgehogBorderModel" "sizes" "[I" ∈ lw_tbl := List.mem_of_getElem? (i := 788) (by decide +kernel)
theorem fg_X9_13 : FG RX9 13 9 1 := ⟨_, _, _, rfl, Nat.le_of_ble_eq_true rfl, inX9, Or.inl (lg_in mw_440 rfl)⟩
theorem ft_X9_1 : FT 9 1 (.array .int) true := ⟨_, _, _, tyX9, rfl, tyX9_ok, nmX9, rfl, by decide +kernel, rfl⟩
theorem mw_441 : Cond.fieldLink RX9 16 "HedgehogBorderModel" "items" "[I" ∈ lw_tbl := List.mem_of_getElem? (i := 789) (by decide +kernel)
theorem fg_X9_16 : FG RX9 16 9 2 := ⟨_, _, _, rfl, Nat.le_of_ble_eq_true rfl, inX9, Or.inl (lg_in mw_441 rfl)⟩
theorem ft_X9_2 : FT 9 2 (.array .int) true := ⟨_, _, _, tyX9, rfl, tyX9_ok, nmX9, rfl, by decide +kernel, rfl⟩
theorem mw_442 : Cond.fieldLink RX9 19 "HedgehogBorderModel" "moved" "[I" ∈ lw_tbl := List.mem_of_getElem? (i := 790) (by decide +kernel)
theorem fg_X9_19 : FG RX9 19 9 3 := ⟨_, _, _, rfl, Nat.le_of_ble_eq_true rfl, inX9, Or.inl (lg_in mw_442 rfl)⟩
theorem ft_X9_3 : FT 9 3 (.array .int) true := ⟨_, _, _, tyX9, rfl, tyX9_ok, nmX9, rfl, by decide +kernel, rfl⟩
theorem mw_443 : Cond.fieldLink RX9 22 "HedgehogBorderModel" "bytes" "[I" ∈ lw_tbl := List.mem_of_getElem? (i := 792) (by decide +kernel)
theorem fg_X9_22 : FG RX9 22 9 5 := ⟨_, _, _, rfl, Nat.le_of_ble_eq_true rfl, inX9, Or.inl (lg_in mw_443 rfl)⟩
theorem ft_X9_5 : FT 9 5 (.array .int) true := ⟨_, _, _, tyX9, rfl, tyX9_ok, nmX9, rfl, by decide +kernel, rfl⟩
theorem mw_444 : Cond.fieldLink RX9 25 "HedgehogBorderModel" "typed" "[I" ∈ lw_tbl := List.mem_of_getElem? (i := 793) (by decide +kernel)
theorem fg_X9_25 : FG RX9 25 9 6 := ⟨_, _, _, rfl, Nat.le_of_ble_eq_true rfl, inX9, Or.inl (lg_in mw_444 rfl)⟩
theorem ft_X9_6 : FT 9 6 (.array .int) true := ⟨_, _, _, tyX9, rfl, tyX9_ok, nmX9, rfl, by decide +kernel, rfl⟩
theorem mw_445 : Cond.fieldLink RX9 28 "HedgehogBorderModel" "cell" "[I" ∈ lw_tbl := List.mem_of_getElem? (i := 796) (by decide +kernel)
theorem fg_X9_28 : FG RX9 28 9 9 := ⟨_, _, _, rfl, Nat.le_of_ble_eq_true rfl, inX9, Or.inl (lg_in mw_445 rfl)⟩
theorem ft_X9_9 : FT 9 9 (.array .int) true := ⟨_, _, _, tyX9, rfl, tyX9_ok, nmX9, rfl, by decide +kernel, rfl⟩
theorem mw_446 : Cond.fieldLink RX9 31 "HedgehogBorderModel" "house" "[I" ∈ lw_tbl := List.mem_of_getElem? (i := 798) (by decide +kernel)
theorem fg_X9_31 : FG RX9 31 9 11 := ⟨_, _, _, rfl, Nat.le_of_ble_eq_true rfl, inX9, Or.inl (lg_in mw_446 rfl)⟩
theorem ft_X9_11 : FT 9 11 (.array .int) true := ⟨_, _, _, tyX9, rfl, tyX9_ok, nmX9, rfl, by decide +kernel, rfl⟩
theorem mw_447 : Cond.fieldLink RX9 34 "HedgehogBorderModel" "settings" "[I" ∈ lw_tbl := List.mem_of_getElem? (i := 799) (by decide +kernel)
theorem fg_X9_34 : FG RX9 34 9 12 := ⟨_, _, _, rfl, Nat.le_of_ble_eq_true rfl, inX9, Or.inl (lg_in mw_447 rfl)⟩
theorem ft_X9_12 : FT 9 12 (.array .int) true := ⟨_, _, _, tyX9, rfl, tyX9_ok, nmX9, rfl, by decide +kernel, rfl⟩
theorem mw_448 : Cond.fieldLink RX9 37 "HedgehogBorderModel" "bowl" "[I" ∈ lw_tbl := List.mem_of_getElem? (i := 801) (by decide +kernel)
theorem fg_X9_37 : FG RX9 37 9 14 := ⟨_, _, _, rfl, Nat.le_of_ble_eq_true rfl, inX9, Or.inl (lg_in mw_448 rfl)⟩
theorem ft_X9_14 : FT 9 14 (.array .int) true := ⟨_, _, _, tyX9, rfl, tyX9_ok, nmX9, rfl, by decide +kernel, rfl⟩
theorem mw_449 : Cond.fieldLink RX9 40 "HedgehogBorderModel" "dog" "[I" ∈ lw_tbl := List.mem_of_getElem? (i := 803) (by decide +kernel)
theorem fg_X9_40 : FG RX9 40 9 16 := ⟨_, _, _, rfl, Nat.le_of_ble_eq_true rfl, inX9, Or.inl (lg_in mw_449 rfl)⟩
theorem ft_X9_16 : FT 9 16 (.array .int) true := ⟨_, _, _, tyX9, rfl, tyX9_ok, nmX9, rfl, by decide +kernel, rfl⟩
theorem mw_450 : Cond.fieldLink RX9 43 "HedgehogBorderModel" "path" "[I" ∈ lw_tbl := List.mem_of_getElem? (i := 805) (by decide +kernel)
theorem fg_X9_43 : FG RX9 43 9 18 := ⟨_, _, _, rfl, Nat.le_of_ble_eq_true rfl, inX9, Or.inl (lg_in mw_450 rfl)⟩
theorem ft_X9_18 : FT 9 18 (.array .int) true := ⟨_, _, _, tyX9, rfl, tyX9_ok, nmX9, rfl, by decide +kernel, rfl⟩
theorem mw_451 : Cond.fieldLink RX9 46 "HedgehogBorderModel" "steps" "[I" ∈ lw_tbl := List.mem_of_getElem? (i := 806) (by decide +kernel)
theorem fg_X9_46 : FG RX9 46 9 19 := ⟨_, _, _, rfl, Nat.le_of_ble_eq_true rfl, inX9, Or.inl (lg_in mw_451 rfl)⟩
theorem ft_X9_19 : FT 9 19 (.array .int) true := ⟨_, _, _, tyX9, rfl, tyX9_ok, nmX9, rfl, by decide +kernel, rfl⟩
theorem mw_452 : Cond.fieldLink RX9 49 "HedgehogBorderModel" "line" "[I" ∈ lw_tbl := List.mem_of_getElem? (i := 807) (by decide +kernel)
theorem fg_X9_49 : FG RX9 49 9 20 := ⟨_, _, _, rfl, Nat.le_of_ble_eq_true rfl, inX9, Or.inl (lg_in mw_452 rfl)⟩
theorem ft_X9_20 : FT 9 20 (.array .int) true := ⟨_, _, _, tyX9, rfl, tyX9_ok, nmX9, rfl, by decide +kernel, rfl⟩
theorem mw_453 : Cond.fieldLink RX9 52 "HedgehogBorderModel" "sight" "[I" ∈ lw_tbl := List.mem_of_getElem? (i := 809) (by decide +kernel)
theorem fg_X9_52 : FG RX9 52 9 22 := ⟨_, _, _, rfl, Nat.le_of_ble_eq_true rfl, inX9, Or.inl (lg_in mw_453 rfl)⟩
theorem ft_X9_22 : FT 9 22 (.array .int) true := ⟨_, _, _, tyX9, rfl, tyX9_ok, nmX9, rfl, by decide +kernel, rfl⟩
theorem mw_454 : Cond.fieldLink RX9 55 "HedgehogBorderModel" "alike" "[I" ∈ lw_tbl := List.mem_of_getElem? (i := 810) (by decide +kernel)
theorem fg_X9_55 : FG RX9 55 9 23 := ⟨_, _, _, rfl, Nat.le_of_ble_eq_true rfl, inX9, Or.inl (lg_in mw_454 rfl)⟩
theorem ft_X9_23 : FT 9 23 (.array .int) true := ⟨_, _, _, tyX9, rfl, tyX9_ok, nmX9, rfl, by decide +kernel, rfl⟩
theorem mw_455 : Cond.constantLong RX9 58 (-9223372036854775808) ∈ lw_tbl := List.mem_of_getElem? (i := 1173) (by decide +kernel)
theorem mw_456 : Cond.code yX9_in cX9_in 6 (some .boolean) ∈ lw_tbl := List.mem_of_getElem? (i := 873) (by decide +kernel)
theorem mw_457 : Cond.initialized RX9 ∈ lw_tbl := List.mem_of_getElem? (i := 91) (by decide +kernel)
theorem mw_458 : Cond.methodLink RX9 60 yX9_in ∈ lw_tbl := List.mem_of_getElem? (i := 871) (by decide +kernel)
theorem mw_459 : Cond.static yX9_in ∈ lw_tbl := List.mem_of_getElem? (i := 872) (by decide +kernel)
theorem mf_X9_60 : MFs RX9 60 yX9_in cX9_in 6 (some .boolean) 3 := ⟨⟨lg_in mw_456 rfl, lg_in mw_457 rfl, by decide +kernel, Or.inl (lg_in mw_458 rfl)⟩, lg_in mw_459 rfl⟩
theorem mw_460 : Cond.fieldLink RX9 64 "HedgehogBorderModel" "latest" "I" ∈ lw_tbl := List.mem_of_getElem? (i := 791) (by decide +kernel)
theorem fg_X9_64 : FG RX9 64 9 4 := ⟨_, _, _, rfl, Nat.le_of_ble_eq_true rfl, inX9, Or.inl (lg_in mw_460 rfl)⟩
theorem ft_X9_4 : FT 9 4 .int false := ⟨_, _, _, tyX9, rfl, tyX9_ok, nmX9, rfl, by decide +kernel, rfl⟩
theorem mw_461 : Cond.constantLong RX9 68 3 ∈ lw_tbl := List.mem_of_getElem? (i := 870) (by decide +kernel)
theorem mw_462 : Cond.code yX9_isSheet cX9_isSheet 1 (some .boolean) ∈ lw_tbl := List.mem_of_getElem? (i := 869) (by decide +kernel)
theorem mw_463 : Cond.methodLink RX9 70 yX9_isSheet ∈ lw_tbl := List.mem_of_getElem? (i := 867) (by decide +kernel)
theorem mw_464 : Cond.static yX9_isSheet ∈ lw_tbl := List.mem_of_getElem? (i := 868) (by decide +kernel)
theorem mf_X9_70 : MFs RX9 70 yX9_isSheet cX9_isSheet 1 (some .boolean) 1 := ⟨⟨lg_in mw_462 rfl, lg_in mw_457 rfl, by decide +kernel, Or.inl (lg_in mw_463 rfl)⟩, lg_in mw_464 rfl⟩
theorem mw_465 : Cond.constantLong RX9 74 2 ∈ lw_tbl := List.mem_of_getElem? (i := 874) (by decide +kernel)
theorem mw_466 : Cond.code yX9_finds cX9_finds 2 (some .int) ∈ lw_tbl := List.mem_of_getElem? (i := 878) (by decide +kernel)
theorem mw_467 : Cond.methodLink RX9 76 yX9_finds ∈ lw_tbl := List.mem_of_getElem? (i := 875) (by decide +kernel)
theorem mw_468 : Cond.instanceMethod yX9_finds ∈ lw_tbl := List.mem_of_getElem? (i := 877) (by decide +kernel)
theorem mw_469 : Cond.selects RX9 yX9_finds yX9_finds ∈ lw_tbl := List.mem_of_getElem? (i := 43) (by decide +kernel)
theorem mf_X9_76 : MFv RX9 76 yX9_finds cX9_finds 2 (some .int) 1 := ⟨⟨lg_in mw_466 rfl, lg_in mw_457 rfl, by decide +kernel, Or.inl (lg_in mw_467 rfl)⟩, lg_in mw_468 rfl, lg_in mw_469 rfl⟩
theorem mw_470 : Cond.code yX9_lacks cX9_lacks 4 (some .int) ∈ lw_tbl := List.mem_of_getElem? (i := 890) (by decide +kernel)
theorem mw_471 : Cond.methodLink RX9 80 yX9_lacks ∈ lw_tbl := List.mem_of_getElem? (i := 887) (by decide +kernel)
theorem mw_472 : Cond.instanceMethod yX9_lacks ∈ lw_tbl := List.mem_of_getElem? (i := 889) (by decide +kernel)
theorem mw_473 : Cond.selects RX9 yX9_lacks yX9_lacks ∈ lw_tbl := List.mem_of_getElem? (i := 44) (by decide +kernel)
theorem mf_X9_80 : MFv RX9 80 yX9_lacks cX9_lacks 4 (some .int) 3 := ⟨⟨lg_in mw_470 rfl, lg_in mw_457 rfl, by decide +kernel, Or.inl (lg_in mw_471 rfl)⟩, lg_in mw_472 rfl, lg_in mw_473 rfl⟩
theorem mw_474 : Cond.code yX9_cut cX9_cut 2 (some .int) ∈ lw_tbl := List.mem_of_getElem? (i := 893) (by decide +kernel)
theorem mw_475 : Cond.methodLink RX9 84 yX9_cut ∈ lw_tbl := List.mem_of_getElem? (i := 891) (by decide +kernel)
theorem mw_476 : Cond.static yX9_cut ∈ lw_tbl := List.mem_of_getElem? (i := 892) (by decide +kernel)
theorem mf_X9_84 : MFs RX9 84 yX9_cut cX9_cut 2 (some .int) 2 := ⟨⟨lg_in mw_474 rfl, lg_in mw_457 rfl, by decide +kernel, Or.inl (lg_in mw_475 rfl)⟩, lg_in mw_476 rfl⟩
theorem mw_477 : Cond.constant RX9 88 (-2147483648) ∈ lw_tbl := List.mem_of_getElem? (i := 898) (by decide +kernel)
theorem mw_478 : Cond.code yX9_isTwo cX9_isTwo 1 (some .boolean) ∈ lw_tbl := List.mem_of_getElem? (i := 909) (by decide +kernel)
theorem mw_479 : Cond.methodLink RX9 89 yX9_isTwo ∈ lw_tbl := List.mem_of_getElem? (i := 907) (by decide +kernel)
theorem mw_480 : Cond.static yX9_isTwo ∈ lw_tbl := List.mem_of_getElem? (i := 908) (by decide +kernel)
theorem mf_X9_89 : MFs RX9 89 yX9_isTwo cX9_isTwo 1 (some .boolean) 1 := ⟨⟨lg_in mw_478 rfl, lg_in mw_457 rfl, by decide +kernel, Or.inl (lg_in mw_479 rfl)⟩, lg_in mw_480 rfl⟩
theorem mw_481 : Cond.constantLong RX9 92 255 ∈ lw_tbl := List.mem_of_getElem? (i := 910) (by decide +kernel)
theorem mw_482 : Cond.fieldLink RX9 94 "HedgehogBorderModel" "cells" "I" ∈ lw_tbl := List.mem_of_getElem? (i := 794) (by decide +kernel)
theorem fg_X9_94 : FG RX9 94 9 7 := ⟨_, _, _, rfl, Nat.le_of_ble_eq_true rfl, inX9, Or.inl (lg_in mw_482 rfl)⟩
theorem ft_X9_7 : FT 9 7 .int false := ⟨_, _, _, tyX9, rfl, tyX9_ok, nmX9, rfl, by decide +kernel, rfl⟩
theorem mw_483 : Cond.fieldLink RX9 97 "HedgehogBorderModel" "wide" "I" ∈ lw_tbl := List.mem_of_getElem? (i := 795) (by decide +kernel)
theorem fg_X9_97 : FG RX9 97 9 8 := ⟨_, _, _, rfl, Nat.le_of_ble_eq_true rfl, inX9, Or.inl (lg_in mw_483 rfl)⟩
theorem ft_X9_8 : FT 9 8 .int false := ⟨_, _, _, tyX9, rfl, tyX9_ok, nmX9, rfl, by decide +kernel, rfl⟩
theorem mw_484 : Cond.code yX9_torn cX9_torn 2 (some .int) ∈ lw_tbl := List.mem_of_getElem? (i := 930) (by decide +kernel)
theorem mw_485 : Cond.methodLink RX9 100 yX9_torn ∈ lw_tbl := List.mem_of_getElem? (i := 927) (by decide +kernel)
theorem mw_486 : Cond.instanceMethod yX9_torn ∈ lw_tbl := List.mem_of_getElem? (i := 929) (by decide +kernel)
theorem mw_487 : Cond.selects RX9 yX9_torn yX9_torn ∈ lw_tbl := List.mem_of_getElem? (i := 46) (by decide +kernel)
theorem mf_X9_100 : MFv RX9 100 yX9_torn cX9_torn 2 (some .int) 1 := ⟨⟨lg_in mw_484 rfl, lg_in mw_457 rfl, by decide +kernel, Or.inl (lg_in mw_485 rfl)⟩, lg_in mw_486 rfl, lg_in mw_487 rfl⟩
theorem mw_488 : Cond.code yX9_cellOf cX9_cellOf 1 (some .int) ∈ lw_tbl := List.mem_of_getElem? (i := 933) (by decide +kernel)
theorem mw_489 : Cond.methodLink RX9 103 yX9_cellOf ∈ lw_tbl := List.mem_of_getElem? (i := 931) (by decide +kernel)
theorem mw_490 : Cond.static yX9_cellOf ∈ lw_tbl := List.mem_of_getElem? (i := 932) (by decide +kernel)
theorem mf_X9_103 : MFs RX9 103 yX9_cellOf cX9_cellOf 1 (some .int) 1 := ⟨⟨lg_in mw_488 rfl, lg_in mw_457 rfl, by decide +kernel, Or.inl (lg_in mw_489 rfl)⟩, lg_in mw_490 rfl⟩
theorem mw_491 : Cond.fieldLink RX9 106 "HedgehogBorderModel" "houses" "I" ∈ lw_tbl := List.mem_of_getElem? (i := 797) (by decide +kernel)
theorem fg_X9_106 : FG RX9 106 9 10 := ⟨_, _, _, rfl, Nat.le_of_ble_eq_true rfl, inX9, Or.inl (lg_in mw_491 rfl)⟩
theorem ft_X9_10 : FT 9 10 .int false := ⟨_, _, _, tyX9, rfl, tyX9_ok, nmX9, rfl, by decide +kernel, rfl⟩
theorem mw_492 : Cond.constantLong RX9 109 48 ∈ lw_tbl := List.mem_of_getElem? (i := 938) (by decide +kernel)
theorem mw_493 : Cond.constantLong RX9 111 51 ∈ lw_tbl := List.mem_of_getElem? (i := 939) (by decide +kernel)
theorem mw_494 : Cond.constantLong RX9 113 57 ∈ lw_tbl := List.mem_of_getElem? (i := 940) (by decide +kernel)
theorem mw_495 : Cond.code yX9_readsLand cX9_readsLand 7 (some .int) ∈ lw_tbl := List.mem_of_getElem? (i := 926) (by decide +kernel)
theorem mw_496 : Cond.methodLink RX9 115 yX9_readsLand ∈ lw_tbl := List.mem_of_getElem? (i := 923) (by decide +kernel)
theorem mw_497 : Cond.instanceMethod yX9_readsLand ∈ lw_tbl := List.mem_of_getElem? (i := 925) (by decide +kernel)
theorem mw_498 : Cond.selects RX9 yX9_readsLand yX9_readsLand ∈ lw_tbl := List.mem_of_getElem? (i := 45) (by decide +kernel)
theorem mf_X9_115 : MFv RX9 115 yX9_readsLand cX9_readsLand 7 (some .int) 0 := ⟨⟨lg_in mw_495 rfl, lg_in mw_457 rfl, by decide +kernel, Or.inl (lg_in mw_496 rfl)⟩, lg_in mw_497 rfl, lg_in mw_498 rfl⟩
theorem mw_499 : Cond.code yX9_readsHouses cX9_readsHouses 7 (some .int) ∈ lw_tbl := List.mem_of_getElem? (i := 937) (by decide +kernel)
theorem mw_500 : Cond.methodLink RX9 119 yX9_readsHouses ∈ lw_tbl := List.mem_of_getElem? (i := 934) (by decide +kernel)
theorem mw_501 : Cond.instanceMethod yX9_readsHouses ∈ lw_tbl := List.mem_of_getElem? (i := 936) (by decide +kernel)
theorem mw_502 : Cond.selects RX9 yX9_readsHouses yX9_readsHouses ∈ lw_tbl := List.mem_of_getElem? (i := 47) (by decide +kernel)
theorem mf_X9_119 : MFv RX9 119 yX9_readsHouses cX9_readsHouses 7 (some .int) 0 := ⟨⟨lg_in mw_499 rfl, lg_in mw_457 rfl, by decide +kernel, Or.inl (lg_in mw_500 rfl)⟩, lg_in mw_501 rfl, lg_in mw_502 rfl⟩
theorem mw_503 : Cond.constantLong RX9 122 9 ∈ lw_tbl := List.mem_of_getElem? (i := 967) (by decide +kernel)
theorem mw_504 : Cond.constantLong RX9 124 35 ∈ lw_tbl := List.mem_of_getElem? (i := 945) (by decide +kernel)
theorem mw_505 : Cond.code yX9_isHouse cX9_isHouse 2 (some .boolean) ∈ lw_tbl := List.mem_of_getElem? (i := 953) (by decide +kernel)
theorem mw_506 : Cond.methodLink RX9 126 yX9_isHouse ∈ lw_tbl := List.mem_of_getElem? (i := 950) (by decide +kernel)
theorem mw_507 : Cond.instanceMethod yX9_isHouse ∈ lw_tbl := List.mem_of_getElem? (i := 952) (by decide +kernel)
theorem mw_508 : Cond.selects RX9 yX9_isHouse yX9_isHouse ∈ lw_tbl := List.mem_of_getElem? (i := 48) (by decide +kernel)
theorem mf_X9_126 : MFv RX9 126 yX9_isHouse cX9_isHouse 2 (some .boolean) 1 := ⟨⟨lg_in mw_505 rfl, lg_in mw_457 rfl, by decide +kernel, Or.inl (lg_in mw_506 rfl)⟩, lg_in mw_507 rfl, lg_in mw_508 rfl⟩
theorem mw_509 : Cond.constantLong RX9 129 5 ∈ lw_tbl := List.mem_of_getElem? (i := 958) (by decide +kernel)
theorem mw_510 : Cond.constantLong RX9 131 10 ∈ lw_tbl := List.mem_of_getElem? (i := 959) (by decide +kernel)
theorem mw_511 : Cond.fieldLink RX9 133 "HedgehogBorderModel" "bowls" "I" ∈ lw_tbl := List.mem_of_getElem? (i := 800) (by decide +kernel)
theorem fg_X9_133 : FG RX9 133 9 13 := ⟨_, _, _, rfl, Nat.le_of_ble_eq_true rfl, inX9, Or.inl (lg_in mw_511 rfl)⟩
theorem ft_X9_13 : FT 9 13 .int false := ⟨_, _, _, tyX9, rfl, tyX9_ok, nmX9, rfl, by decide +kernel, rfl⟩
theorem mw_512 : Cond.code yX9_isNight cX9_isNight 1 (some .boolean) ∈ lw_tbl := List.mem_of_getElem? (i := 966) (by decide +kernel)
theorem mw_513 : Cond.methodLink RX9 136 yX9_isNight ∈ lw_tbl := List.mem_of_getElem? (i := 964) (by decide +kernel)
theorem mw_514 : Cond.static yX9_isNight ∈ lw_tbl := List.mem_of_getElem? (i := 965) (by decide +kernel)
theorem mf_X9_136 : MFs RX9 136 yX9_isNight cX9_isNight 1 (some .boolean) 1 := ⟨⟨lg_in mw_512 rfl, lg_in mw_457 rfl, by decide +kernel, Or.inl (lg_in mw_513 rfl)⟩, lg_in mw_514 rfl⟩
theorem mw_515 : Cond.code yX9_puts cX9_puts 3 none ∈ lw_tbl := List.mem_of_getElem? (i := 971) (by decide +kernel)
theorem mw_516 : Cond.methodLink RX9 139 yX9_puts ∈ lw_tbl := List.mem_of_getElem? (i := 968) (by decide +kernel)
theorem mw_517 : Cond.instanceMethod yX9_puts ∈ lw_tbl := List.mem_of_getElem? (i := 970) (by decide +kernel)
theorem mw_518 : Cond.selects RX9 yX9_puts yX9_puts ∈ lw_tbl := List.mem_of_getElem? (i := 49) (by decide +kernel)
theorem mf_X9_139 : MFv RX9 139 yX9_puts cX9_puts 3 none 2 := ⟨⟨lg_in mw_515 rfl, lg_in mw_457 rfl, by decide +kernel, Or.inl (lg_in mw_516 rfl)⟩, lg_in mw_517 rfl, lg_in mw_518 rfl⟩
theorem mw_519 : Cond.fieldLink RX9 143 "HedgehogBorderModel" "dogs" "I" ∈ lw_tbl := List.mem_of_getElem? (i := 802) (by decide +kernel)
theorem fg_X9_143 : FG RX9 143 9 15 := ⟨_, _, _, rfl, Nat.le_of_ble_eq_true rfl, inX9, Or.inl (lg_in mw_519 rfl)⟩
theorem ft_X9_15 : FT 9 15 .int false := ⟨_, _, _, tyX9, rfl, tyX9_ok, nmX9, rfl, by decide +kernel, rfl⟩
theorem mw_520 : Cond.code yX9_bowl cX9_bowl 3 (some .int) ∈ lw_tbl := List.mem_of_getElem? (i := 963) (by decide +kernel)
theorem mw_521 : Cond.methodLink RX9 146 yX9_bowl ∈ lw_tbl := List.mem_of_getElem? (i := 984) (by decide +kernel)
theorem mw_522 : Cond.instanceMethod yX9_bowl ∈ lw_tbl := List.mem_of_getElem? (i := 961) (by decide +kernel)
theorem mw_523 : Cond.selects RX9 yX9_bowl yX9_bowl ∈ lw_tbl := List.mem_of_getElem? (i := 962) (by decide +kernel)
theorem mf_X9_146 : MFv RX9 146 yX9_bowl cX9_bowl 3 (some .int) 2 := ⟨⟨lg_in mw_520 rfl, lg_in mw_457 rfl, by decide +kernel, Or.inl (lg_in mw_521 rfl)⟩, lg_in mw_522 rfl, lg_in mw_523 rfl⟩
theorem mw_524 : Cond.code yX9_wasOn cX9_wasOn 6 (some .boolean) ∈ lw_tbl := List.mem_of_getElem? (i := 1020) (by decide +kernel)
theorem mw_525 : Cond.methodLink RX9 148 yX9_wasOn ∈ lw_tbl := List.mem_of_getElem? (i := 1017) (by decide +kernel)
theorem mw_526 : Cond.instanceMethod yX9_wasOn ∈ lw_tbl := List.mem_of_getElem? (i := 1019) (by decide +kernel)
theorem mw_527 : Cond.selects RX9 yX9_wasOn yX9_wasOn ∈ lw_tbl := List.mem_of_getElem? (i := 57) (by decide +kernel)
theorem mf_X9_148 : MFv RX9 148 yX9_wasOn cX9_wasOn 6 (some .boolean) 3 := ⟨⟨lg_in mw_524 rfl, lg_in mw_457 rfl, by decide +kernel, Or.inl (lg_in mw_525 rfl)⟩, lg_in mw_526 rfl, lg_in mw_527 rfl⟩
theorem mw_528 : Cond.fieldLink RX9 152 "HedgehogBorderModel" "gone" "I" ∈ lw_tbl := List.mem_of_getElem? (i := 804) (by decide +kernel)
theorem fg_X9_152 : FG RX9 152 9 17 := ⟨_, _, _, rfl, Nat.le_of_ble_eq_true rfl, inX9, Or.inl (lg_in mw_528 rfl)⟩
theorem mw_529 : Cond.code yX9_isIn cX9_isIn 2 (some .boolean) ∈ lw_tbl := List.mem_of_getElem? (i := 1023) (by decide +kernel)
theorem mw_530 : Cond.methodLink RX9 155 yX9_isIn ∈ lw_tbl := List.mem_of_getElem? (i := 1021) (by decide +kernel)
theorem mw_531 : Cond.static yX9_isIn ∈ lw_tbl := List.mem_of_getElem? (i := 1022) (by decide +kernel)
theorem mf_X9_155 : MFs RX9 155 yX9_isIn cX9_isIn 2 (some .boolean) 2 := ⟨⟨lg_in mw_529 rfl, lg_in mw_457 rfl, by decide +kernel, Or.inl (lg_in mw_530 rfl)⟩, lg_in mw_531 rfl⟩
theorem mw_532 : Cond.code yX9_beside cX9_beside 4 (some .int) ∈ lw_tbl := List.mem_of_getElem? (i := 1012) (by decide +kernel)
theorem mw_533 : Cond.methodLink RX9 159 yX9_beside ∈ lw_tbl := List.mem_of_getElem? (i := 1009) (by decide +kernel)
theorem mw_534 : Cond.instanceMethod yX9_beside ∈ lw_tbl := List.mem_of_getElem? (i := 1011) (by decide +kernel)
theorem mw_535 : Cond.selects RX9 yX9_beside yX9_beside ∈ lw_tbl := List.mem_of_getElem? (i := 55) (by decide +kernel)
theorem mf_X9_159 : MFv RX9 159 yX9_beside cX9_beside 4 (some .int) 2 := ⟨⟨lg_in mw_532 rfl, lg_in mw_457 rfl, by decide +kernel, Or.inl (lg_in mw_533 rfl)⟩, lg_in mw_534 rfl, lg_in mw_535 rfl⟩
theorem mw_536 : Cond.code yX9_worth cX9_worth 7 (some .int) ∈ lw_tbl := List.mem_of_getElem? (i := 1016) (by decide +kernel)
theorem mw_537 : Cond.methodLink RX9 162 yX9_worth ∈ lw_tbl := List.mem_of_getElem? (i := 1013) (by decide +kernel)
theorem mw_538 : Cond.instanceMethod yX9_worth ∈ lw_tbl := List.mem_of_getElem? (i := 1015) (by decide +kernel)
theorem mw_539 : Cond.selects RX9 yX9_worth yX9_worth ∈ lw_tbl := List.mem_of_getElem? (i := 56) (by decide +kernel)
theorem mf_X9_162 : MFv RX9 162 yX9_worth cX9_worth 7 (some .int) 3 := ⟨⟨lg_in mw_536 rfl, lg_in mw_457 rfl, by decide +kernel, Or.inl (lg_in mw_537 rfl)⟩, lg_in mw_538 rfl, lg_in mw_539 rfl⟩
theorem mw_540 : Cond.code yX9_isCell cX9_isCell 2 (some .boolean) ∈ lw_tbl := List.mem_of_getElem? (i := 1004) (by decide +kernel)
theorem mw_541 : Cond.methodLink RX9 165 yX9_isCell ∈ lw_tbl := List.mem_of_getElem? (i := 1001) (by decide +kernel)
theorem mw_542 : Cond.instanceMethod yX9_isCell ∈ lw_tbl := List.mem_of_getElem? (i := 1003) (by decide +kernel)
theorem mw_543 : Cond.selects RX9 yX9_isCell yX9_isCell ∈ lw_tbl := List.mem_of_getElem? (i := 53) (by decide +kernel)
theorem mf_X9_165 : MFv RX9 165 yX9_isCell cX9_isCell 2 (some .boolean) 1 := ⟨⟨lg_in mw_540 rfl, lg_in mw_457 rfl, by decide +kernel, Or.inl (lg_in mw_541 rfl)⟩, lg_in mw_542 rfl, lg_in mw_543 rfl⟩
theorem mw_544 : Cond.code yX9_next cX9_next 11 (some .int) ∈ lw_tbl := List.mem_of_getElem? (i := 1008) (by decide +kernel)
theorem mw_545 : Cond.methodLink RX9 168 yX9_next ∈ lw_tbl := List.mem_of_getElem? (i := 1005) (by decide +kernel)
theorem mw_546 : Cond.instanceMethod yX9_next ∈ lw_tbl := List.mem_of_getElem? (i := 1007) (by decide +kernel)
theorem mw_547 : Cond.selects RX9 yX9_next yX9_next ∈ lw_tbl := List.mem_of_getElem? (i := 54) (by decide +kernel)
theorem mf_X9_168 : MFv RX9 168 yX9_next cX9_next 11 (some .int) 2 := ⟨⟨lg_in mw_544 rfl, lg_in mw_457 rfl, by decide +kernel, Or.inl (lg_in mw_545 rfl)⟩, lg_in mw_546 rfl, lg_in mw_547 rfl⟩
theorem mw_548 : Cond.code yX9_walks cX9_walks 5 none ∈ lw_tbl := List.mem_of_getElem? (i := 1000) (by decide +kernel)
theorem mw_549 : Cond.methodLink RX9 171 yX9_walks ∈ lw_tbl := List.mem_of_getElem? (i := 997) (by decide +kernel)
theorem mw_550 : Cond.instanceMethod yX9_walks ∈ lw_tbl := List.mem_of_getElem? (i := 999) (by decide +kernel)
theorem mw_551 : Cond.selects RX9 yX9_walks yX9_walks ∈ lw_tbl := List.mem_of_getElem? (i := 52) (by decide +kernel)
theorem mf_X9_171 : MFv RX9 171 yX9_walks cX9_walks 5 none 1 := ⟨⟨lg_in mw_548 rfl, lg_in mw_457 rfl, by decide +kernel, Or.inl (lg_in mw_549 rfl)⟩, lg_in mw_550 rfl, lg_in mw_551 rfl⟩
theorem mw_552 : Cond.code yX9_draws cX9_draws 4 none ∈ lw_tbl := List.mem_of_getElem? (i := 1027) (by decide +kernel)
theorem mw_553 : Cond.methodLink RX9 175 yX9_draws ∈ lw_tbl := List.mem_of_getElem? (i := 1024) (by decide +kernel)
theorem mw_554 : Cond.instanceMethod yX9_draws ∈ lw_tbl := List.mem_of_getElem? (i := 1026) (by decide +kernel)
theorem mw_555 : Cond.selects RX9 yX9_draws yX9_draws ∈ lw_tbl := List.mem_of_getElem? (i := 58) (by decide +kernel)
theorem mf_X9_175 : MFv RX9 175 yX9_draws cX9_draws 4 none 1 := ⟨⟨lg_in mw_552 rfl, lg_in mw_457 rfl, by decide +kernel, Or.inl (lg_in mw_553 rfl)⟩, lg_in mw_554 rfl, lg_in mw_555 rfl⟩
theorem mw_556 : Cond.code yX9_lives cX9_lives 3 none ∈ lw_tbl := List.mem_of_getElem? (i := 996) (by decide +kernel)
theorem mw_557 : Cond.methodLink RX9 178 yX9_lives ∈ lw_tbl := List.mem_of_getElem? (i := 993) (by decide +kernel)
theorem mw_558 : Cond.instanceMethod yX9_lives ∈ lw_tbl := List.mem_of_getElem? (i := 995) (by decide +kernel)
theorem mw_559 : Cond.selects RX9 yX9_lives yX9_lives ∈ lw_tbl := List.mem_of_getElem? (i := 51) (by decide +kernel)
theorem mf_X9_178 : MFv RX9 178 yX9_lives cX9_lives 3 none 1 := ⟨⟨lg_in mw_556 rfl, lg_in mw_457 rfl, by decide +kernel, Or.inl (lg_in mw_557 rfl)⟩, lg_in mw_558 rfl, lg_in mw_559 rfl⟩
theorem mw_560 : Cond.code yX9_lesser cX9_lesser 2 (some .int) ∈ lw_tbl := List.mem_of_getElem? (i := 1035) (by decide +kernel)
theorem mw_561 : Cond.methodLink RX9 181 yX9_lesser ∈ lw_tbl := List.mem_of_getElem? (i := 1033) (by decide +kernel)
theorem mw_562 : Cond.static yX9_lesser ∈ lw_tbl := List.mem_of_getElem? (i := 1034) (by decide +kernel)
theorem mf_X9_181 : MFs RX9 181 yX9_lesser cX9_lesser 2 (some .int) 2 := ⟨⟨lg_in mw_560 rfl, lg_in mw_457 rfl, by decide +kernel, Or.inl (lg_in mw_561 rfl)⟩, lg_in mw_562 rfl⟩
theorem mw_563 : Cond.code yX9_find cX9_find 1 none ∈ lw_tbl := List.mem_of_getElem? (i := 992) (by decide +kernel)
theorem mw_564 : Cond.methodLink RX9 184 yX9_find ∈ lw_tbl := List.mem_of_getElem? (i := 989) (by decide +kernel)
theorem mw_565 : Cond.instanceMethod yX9_find ∈ lw_tbl := List.mem_of_getElem? (i := 991) (by decide +kernel)
theorem mw_566 : Cond.selects RX9 yX9_find yX9_find ∈ lw_tbl := List.mem_of_getElem? (i := 50) (by decide +kernel)
theorem mf_X9_184 : MFv RX9 184 yX9_find cX9_find 1 none 0 := ⟨⟨lg_in mw_563 rfl, lg_in mw_457 rfl, by decide +kernel, Or.inl (lg_in mw_564 rfl)⟩, lg_in mw_565 rfl, lg_in mw_566 rfl⟩
theorem mw_567 : Cond.constantLong RX9 187 24 ∈ lw_tbl := List.mem_of_getElem? (i := 1028) (by decide +kernel)
theorem mw_568 : Cond.code yX9_atOf cX9_atOf 3 (some .int) ∈ lw_tbl := List.mem_of_getElem? (i := 1032) (by decide +kernel)
theorem mw_569 : Cond.methodLink RX9 189 yX9_atOf ∈ lw_tbl := List.mem_of_getElem? (i := 1029) (by decide +kernel)
theorem mw_570 : Cond.instanceMethod yX9_atOf ∈ lw_tbl := List.mem_of_getElem? (i := 1031) (by decide +kernel)
theorem mw_571 : Cond.selects RX9 yX9_atOf yX9_atOf ∈ lw_tbl := List.mem_of_getElem? (i := 59) (by decide +kernel)
theorem mf_X9_189 : MFv RX9 189 yX9_atOf cX9_atOf 3 (some .int) 2 := ⟨⟨lg_in mw_568 rfl, lg_in mw_457 rfl, by decide +kernel, Or.inl (lg_in mw_569 rfl)⟩, lg_in mw_570 rfl, lg_in mw_571 rfl⟩
theorem mw_572 : Cond.code yX9_goesOf cX9_goesOf 2 (some .int) ∈ lw_tbl := List.mem_of_getElem? (i := 1043) (by decide +kernel)
theorem mw_573 : Cond.methodLink RX9 192 yX9_goesOf ∈ lw_tbl := List.mem_of_getElem? (i := 1040) (by decide +kernel)
theorem mw_574 : Cond.instanceMethod yX9_goesOf ∈ lw_tbl := List.mem_of_getElem? (i := 1042) (by decide +kernel)
theorem mw_575 : Cond.selects RX9 yX9_goesOf yX9_goesOf ∈ lw_tbl := List.mem_of_getElem? (i := 60) (by decide +kernel)
theorem mf_X9_192 : MFv RX9 192 yX9_goesOf cX9_goesOf 2 (some .int) 1 := ⟨⟨lg_in mw_572 rfl, lg_in mw_457 rfl, by decide +kernel, Or.inl (lg_in mw_573 rfl)⟩, lg_in mw_574 rfl, lg_in mw_575 rfl⟩
theorem mw_576 : Cond.code yX9_realmOf cX9_realmOf 4 (some .int) ∈ lw_tbl := List.mem_of_getElem? (i := 1055) (by decide +kernel)
theorem mw_577 : Cond.methodLink RX9 195 yX9_realmOf ∈ lw_tbl := List.mem_of_getElem? (i := 1052) (by decide +kernel)
theorem mw_578 : Cond.instanceMethod yX9_realmOf ∈ lw_tbl := List.mem_of_getElem? (i := 1054) (by decide +kernel)
theorem mw_579 : Cond.selects RX9 yX9_realmOf yX9_realmOf ∈ lw_tbl := List.mem_of_getElem? (i := 61) (by decide +kernel)
theorem mf_X9_195 : MFv RX9 195 yX9_realmOf cX9_realmOf 4 (some .int) 2 := ⟨⟨lg_in mw_576 rfl, lg_in mw_457 rfl, by decide +kernel, Or.inl (lg_in mw_577 rfl)⟩, lg_in mw_578 rfl, lg_in mw_579 rfl⟩
theorem mw_580 : Cond.code yX9_liesOf cX9_liesOf 3 (some .int) ∈ lw_tbl := List.mem_of_getElem? (i := 1063) (by decide +kernel)
theorem mw_581 : Cond.methodLink RX9 198 yX9_liesOf ∈ lw_tbl := List.mem_of_getElem? (i := 1060) (by decide +kernel)
theorem mw_582 : Cond.instanceMethod yX9_liesOf ∈ lw_tbl := List.mem_of_getElem? (i := 1062) (by decide +kernel)
theorem mw_583 : Cond.selects RX9 yX9_liesOf yX9_liesOf ∈ lw_tbl := List.mem_of_getElem? (i := 62) (by decide +kernel)
theorem mf_X9_198 : MFv RX9 198 yX9_liesOf cX9_liesOf 3 (some .int) 2 := ⟨⟨lg_in mw_580 rfl, lg_in mw_457 rfl, by decide +kernel, Or.inl (lg_in mw_581 rfl)⟩, lg_in mw_582 rfl, lg_in mw_583 rfl⟩
theorem mw_584 : Cond.code yX9_changesOf cX9_changesOf 4 (some .int) ∈ lw_tbl := List.mem_of_getElem? (i := 1071) (by decide +kernel)
theorem mw_585 : Cond.methodLink RX9 201 yX9_changesOf ∈ lw_tbl := List.mem_of_getElem? (i := 1068) (by decide +kernel)
theorem mw_586 : Cond.instanceMethod yX9_changesOf ∈ lw_tbl := List.mem_of_getElem? (i := 1070) (by decide +kernel)
theorem mw_587 : Cond.selects RX9 yX9_changesOf yX9_changesOf ∈ lw_tbl := List.mem_of_getElem? (i := 63) (by decide +kernel)
theorem mf_X9_201 : MFv RX9 201 yX9_changesOf cX9_changesOf 4 (some .int) 1 := ⟨⟨lg_in mw_584 rfl, lg_in mw_457 rfl, by decide +kernel, Or.inl (lg_in mw_585 rfl)⟩, lg_in mw_586 rfl, lg_in mw_587 rfl⟩
theorem mw_588 : Cond.code yX9_taxesOf cX9_taxesOf 6 (some .int) ∈ lw_tbl := List.mem_of_getElem? (i := 1079) (by decide +kernel)
theorem mw_589 : Cond.methodLink RX9 204 yX9_taxesOf ∈ lw_tbl := List.mem_of_getElem? (i := 1076) (by decide +kernel)
theorem mw_590 : Cond.instanceMethod yX9_taxesOf ∈ lw_tbl := List.mem_of_getElem? (i := 1078) (by decide +kernel)
theorem mw_591 : Cond.selects RX9 yX9_taxesOf yX9_taxesOf ∈ lw_tbl := List.mem_of_getElem? (i := 64) (by decide +kernel)
theorem mf_X9_204 : MFv RX9 204 yX9_taxesOf cX9_taxesOf 6 (some .int) 2 := ⟨⟨lg_in mw_588 rfl, lg_in mw_457 rfl, by decide +kernel, Or.inl (lg_in mw_589 rfl)⟩, lg_in mw_590 rfl, lg_in mw_591 rfl⟩
theorem mw_592 : Cond.code yX9_firstOf cX9_firstOf 4 (some .int) ∈ lw_tbl := List.mem_of_getElem? (i := 1087) (by decide +kernel)
theorem mw_593 : Cond.methodLink RX9 207 yX9_firstOf ∈ lw_tbl := List.mem_of_getElem? (i := 1084) (by decide +kernel)
theorem mw_594 : Cond.instanceMethod yX9_firstOf ∈ lw_tbl := List.mem_of_getElem? (i := 1086) (by decide +kernel)
theorem mw_595 : Cond.selects RX9 yX9_firstOf yX9_firstOf ∈ lw_tbl := List.mem_of_getElem? (i := 65) (by decide +kernel)
theorem mf_X9_207 : MFv RX9 207 yX9_firstOf cX9_firstOf 4 (some .int) 1 := ⟨⟨lg_in mw_592 rfl, lg_in mw_457 rfl, by decide +kernel, Or.inl (lg_in mw_593 rfl)⟩, lg_in mw_594 rfl, lg_in mw_595 rfl⟩
theorem mw_596 : Cond.code yX9_isSo cX9_isSo 4 (some .boolean) ∈ lw_tbl := List.mem_of_getElem? (i := 1100) (by decide +kernel)
theorem mw_597 : Cond.methodLink RX9 210 yX9_isSo ∈ lw_tbl := List.mem_of_getElem? (i := 1097) (by decide +kernel)
theorem mw_598 : Cond.instanceMethod yX9_isSo ∈ lw_tbl := List.mem_of_getElem? (i := 1099) (by decide +kernel)
theorem mw_599 : Cond.selects RX9 yX9_isSo yX9_isSo ∈ lw_tbl := List.mem_of_getElem? (i := 67) (by decide +kernel)
theorem mf_X9_210 : MFv RX9 210 yX9_isSo cX9_isSo 4 (some .boolean) 3 := ⟨⟨lg_in mw_596 rfl, lg_in mw_457 rfl, by decide +kernel, Or.inl (lg_in mw_597 rfl)⟩, lg_in mw_598 rfl, lg_in mw_599 rfl⟩
theorem mw_600 : Cond.constantLong RX9 213 (-1) ∈ lw_tbl := List.mem_of_getElem? (i := 1092) (by decide +kernel)
theorem mw_601 : Cond.code yX9_layOutOf cX9_layOutOf 9 (some .int) ∈ lw_tbl := List.mem_of_getElem? (i := 1096) (by decide +kernel)
theorem mw_602 : Cond.methodLink RX9 215 yX9_layOutOf ∈ lw_tbl := List.mem_of_getElem? (i := 1093) (by decide +kernel)
theorem mw_603 : Cond.instanceMethod yX9_layOutOf ∈ lw_tbl := List.mem_of_getElem? (i := 1095) (by decide +kernel)
theorem mw_604 : Cond.selects RX9 yX9_layOutOf yX9_layOutOf ∈ lw_tbl := List.mem_of_getElem? (i := 66) (by decide +kernel)
theorem mf_X9_215 : MFv RX9 215 yX9_layOutOf cX9_layOutOf 9 (some .int) 4 := ⟨⟨lg_in mw_601 rfl, lg_in mw_457 rfl, by decide +kernel, Or.inl (lg_in mw_602 rfl)⟩, lg_in mw_603 rfl, lg_in mw_604 rfl⟩
theorem mw_605 : Cond.code yX9_rakeOf cX9_rakeOf 6 (some .int) ∈ lw_tbl := List.mem_of_getElem? (i := 1108) (by decide +kernel)
theorem mw_606 : Cond.methodLink RX9 219 yX9_rakeOf ∈ lw_tbl := List.mem_of_getElem? (i := 1105) (by decide +kernel)
theorem mw_607 : Cond.instanceMethod yX9_rakeOf ∈ lw_tbl := List.mem_of_getElem? (i := 1107) (by decide +kernel)
theorem mw_608 : Cond.selects RX9 yX9_rakeOf yX9_rakeOf ∈ lw_tbl := List.mem_of_getElem? (i := 68) (by decide +kernel)
theorem mf_X9_219 : MFv RX9 219 yX9_rakeOf cX9_rakeOf 6 (some .int) 3 := ⟨⟨lg_in mw_605 rfl, lg_in mw_457 rfl, by decide +kernel, Or.inl (lg_in mw_606 rfl)⟩, lg_in mw_607 rfl, lg_in mw_608 rfl⟩
theorem mw_609 : Cond.code yX9_isBuilt cX9_isBuilt 4 (some .boolean) ∈ lw_tbl := List.mem_of_getElem? (i := 1120) (by decide +kernel)
theorem mw_610 : Cond.methodLink RX9 222 yX9_isBuilt ∈ lw_tbl := List.mem_of_getElem? (i := 1117) (by decide +kernel)
theorem mw_611 : Cond.instanceMethod yX9_isBuilt ∈ lw_tbl := List.mem_of_getElem? (i := 1119) (by decide +kernel)
theorem mw_612 : Cond.selects RX9 yX9_isBuilt yX9_isBuilt ∈ lw_tbl := List.mem_of_getElem? (i := 70) (by decide +kernel)
theorem mf_X9_222 : MFv RX9 222 yX9_isBuilt cX9_isBuilt 4 (some .boolean) 1 := ⟨⟨lg_in mw_609 rfl, lg_in mw_457 rfl, by decide +kernel, Or.inl (lg_in mw_610 rfl)⟩, lg_in mw_611 rfl, lg_in mw_612 rfl⟩
theorem mw_613 : Cond.code yX9_liveOf cX9_liveOf 8 (some .int) ∈ lw_tbl := List.mem_of_getElem? (i := 1116) (by decide +kernel)
theorem mw_614 : Cond.methodLink RX9 225 yX9_liveOf ∈ lw_tbl := List.mem_of_getElem? (i := 1113) (by decide +kernel)
theorem mw_615 : Cond.instanceMethod yX9_liveOf ∈ lw_tbl := List.mem_of_getElem? (i := 1115) (by decide +kernel)
theorem mw_616 : Cond.selects RX9 yX9_liveOf yX9_liveOf ∈ lw_tbl := List.mem_of_getElem? (i := 69) (by decide +kernel)
theorem mf_X9_225 : MFv RX9 225 yX9_liveOf cX9_liveOf 8 (some .int) 2 := ⟨⟨lg_in mw_613 rfl, lg_in mw_457 rfl, by decide +kernel, Or.inl (lg_in mw_614 rfl)⟩, lg_in mw_615 rfl, lg_in mw_616 rfl⟩
theorem mw_617 : Cond.constantLong RX9 228 7 ∈ lw_tbl := List.mem_of_getElem? (i := 1125) (by decide +kernel)
theorem mw_618 : Cond.fieldLink RX9 230 "HedgehogBorderModel" "sights" "I" ∈ lw_tbl := List.mem_of_getElem? (i := 808) (by decide +kernel)
theorem fg_X9_230 : FG RX9 230 9 21 := ⟨_, _, _, rfl, Nat.le_of_ble_eq_true rfl, inX9, Or.inl (lg_in mw_618 rfl)⟩
theorem ft_X9_21 : FT 9 21 .int false := ⟨_, _, _, tyX9, rfl, tyX9_ok, nmX9, rfl, by decide +kernel, rfl⟩
theorem ft_X9_17 : FT 9 17 .int false := ⟨_, _, _, tyX9, rfl, tyX9_ok, nmX9, rfl, by decide +kernel, rfl⟩
theorem mw_619 : Cond.code yX9_isSeen cX9_isSeen 4 (some .boolean) ∈ lw_tbl := List.mem_of_getElem? (i := 1141) (by decide +kernel)
theorem mw_620 : Cond.methodLink RX9 233 yX9_isSeen ∈ lw_tbl := List.mem_of_getElem? (i := 1138) (by decide +kernel)
theorem mw_621 : Cond.instanceMethod yX9_isSeen ∈ lw_tbl := List.mem_of_getElem? (i := 1140) (by decide +kernel)
theorem mw_622 : Cond.selects RX9 yX9_isSeen yX9_isSeen ∈ lw_tbl := List.mem_of_getElem? (i := 72) (by decide +kernel)
theorem mf_X9_233 : MFv RX9 233 yX9_isSeen cX9_isSeen 4 (some .boolean) 0 := ⟨⟨lg_in mw_619 rfl, lg_in mw_457 rfl, by decide +kernel, Or.inl (lg_in mw_620 rfl)⟩, lg_in mw_621 rfl, lg_in mw_622 rfl⟩
theorem mw_623 : Cond.code yX9_neverNow cX9_neverNow 3 (some .int) ∈ lw_tbl := List.mem_of_getElem? (i := 1137) (by decide +kernel)
theorem mw_624 : Cond.methodLink RX9 237 yX9_neverNow ∈ lw_tbl := List.mem_of_getElem? (i := 1134) (by decide +kernel)
theorem mw_625 : Cond.instanceMethod yX9_neverNow ∈ lw_tbl := List.mem_of_getElem? (i := 1136) (by decide +kernel)
theorem mw_626 : Cond.selects RX9 yX9_neverNow yX9_neverNow ∈ lw_tbl := List.mem_of_getElem? (i := 71) (by decide +kernel)
theorem mf_X9_237 : MFv RX9 237 yX9_neverNow cX9_neverNow 3 (some .int) 0 := ⟨⟨lg_in mw_623 rfl, lg_in mw_457 rfl, by decide +kernel, Or.inl (lg_in mw_624 rfl)⟩, lg_in mw_625 rfl, lg_in mw_626 rfl⟩
theorem mw_627 : Cond.code yX9_beganNow cX9_beganNow 4 (some .int) ∈ lw_tbl := List.mem_of_getElem? (i := 1149) (by decide +kernel)
theorem mw_628 : Cond.methodLink RX9 240 yX9_beganNow ∈ lw_tbl := List.mem_of_getElem? (i := 1146) (by decide +kernel)
theorem mw_629 : Cond.instanceMethod yX9_beganNow ∈ lw_tbl := List.mem_of_getElem? (i := 1148) (by decide +kernel)
theorem mw_630 : Cond.selects RX9 yX9_beganNow yX9_beganNow ∈ lw_tbl := List.mem_of_getElem? (i := 73) (by decide +kernel)
theorem mf_X9_240 : MFv RX9 240 yX9_beganNow cX9_beganNow 4 (some .int) 0 := ⟨⟨lg_in mw_627 rfl, lg_in mw_457 rfl, by decide +kernel, Or.inl (lg_in mw_628 rfl)⟩, lg_in mw_629 rfl, lg_in mw_630 rfl⟩
theorem mw_631 : Cond.code yX9_askOf cX9_askOf 9 (some .int) ∈ lw_tbl := List.mem_of_getElem? (i := 1157) (by decide +kernel)
theorem mw_632 : Cond.methodLink RX9 243 yX9_askOf ∈ lw_tbl := List.mem_of_getElem? (i := 1154) (by decide +kernel)
theorem mw_633 : Cond.instanceMethod yX9_askOf ∈ lw_tbl := List.mem_of_getElem? (i := 1156) (by decide +kernel)
theorem mw_634 : Cond.selects RX9 yX9_askOf yX9_askOf ∈ lw_tbl := List.mem_of_getElem? (i := 74) (by decide +kernel)
theorem mf_X9_243 : MFv RX9 243 yX9_askOf cX9_askOf 9 (some .int) 1 := ⟨⟨lg_in mw_631 rfl, lg_in mw_457 rfl, by decide +kernel, Or.inl (lg_in mw_632 rfl)⟩, lg_in mw_633 rfl, lg_in mw_634 rfl⟩
theorem mw_635 : Cond.code yX9_part cX9_part 11 (some .long) ∈ lw_tbl := List.mem_of_getElem? (i := 1169) (by decide +kernel)
theorem mw_636 : Cond.methodLink RX9 246 yX9_part ∈ lw_tbl := List.mem_of_getElem? (i := 1167) (by decide +kernel)
theorem mw_637 : Cond.static yX9_part ∈ lw_tbl := List.mem_of_getElem? (i := 1168) (by decide +kernel)
theorem mf_X9_246 : MFs RX9 246 yX9_part cX9_part 11 (some .long) 3 := ⟨⟨lg_in mw_635 rfl, lg_in mw_457 rfl, by decide +kernel, Or.inl (lg_in mw_636 rfl)⟩, lg_in mw_637 rfl⟩
theorem mw_638 : Cond.constantLong RX9 250 16 ∈ lw_tbl := List.mem_of_getElem? (i := 1162) (by decide +kernel)
theorem mw_639 : Cond.code yX9_catOf cX9_catOf 12 (some .long) ∈ lw_tbl := List.mem_of_getElem? (i := 1166) (by decide +kernel)
theorem mw_640 : Cond.methodLink RX9 252 yX9_catOf ∈ lw_tbl := List.mem_of_getElem? (i := 1163) (by decide +kernel)
theorem mw_641 : Cond.instanceMethod yX9_catOf ∈ lw_tbl := List.mem_of_getElem? (i := 1165) (by decide +kernel)
theorem mw_642 : Cond.selects RX9 yX9_catOf yX9_catOf ∈ lw_tbl := List.mem_of_getElem? (i := 75) (by decide +kernel)
theorem mf_X9_252 : MFv RX9 252 yX9_catOf cX9_catOf 12 (some .long) 5 := ⟨⟨lg_in mw_639 rfl, lg_in mw_457 rfl, by decide +kernel, Or.inl (lg_in mw_640 rfl)⟩, lg_in mw_641 rfl, lg_in mw_642 rfl⟩
theorem mw_643 : Cond.code yX9_no cX9_no 1 (some .long) ∈ lw_tbl := List.mem_of_getElem? (i := 1172) (by decide +kernel)
theorem mw_644 : Cond.methodLink RX9 256 yX9_no ∈ lw_tbl := List.mem_of_getElem? (i := 1170) (by decide +kernel)
theorem mw_645 : Cond.static yX9_no ∈ lw_tbl := List.mem_of_getElem? (i := 1171) (by decide +kernel)
theorem mf_X9_256 : MFs RX9 256 yX9_no cX9_no 1 (some .long) 1 := ⟨⟨lg_in mw_643 rfl, lg_in mw_457 rfl, by decide +kernel, Or.inl (lg_in mw_644 rfl)⟩, lg_in mw_645 rfl⟩
theorem mw_646 : Cond.constant RX9 260 1103515245 ∈ lw_tbl := List.mem_of_getElem? (i := 1191) (by decide +kernel)
theorem mw_647 : Cond.fieldLink RX9 261 "HedgehogBorderModel" "drawn" "I" ∈ lw_tbl := List.mem_of_getElem? (i := 811) (by decide +kernel)
theorem fg_X9_261 : FG RX9 261 9 24 := ⟨_, _, _, rfl, Nat.le_of_ble_eq_true rfl, inX9, Or.inl (lg_in mw_647 rfl)⟩
theorem ft_X9_24 : FT 9 24 .int false := ⟨_, _, _, tyX9, rfl, tyX9_ok, nmX9, rfl, by decide +kernel, rfl⟩
theorem mw_648 : Cond.code yX9_besides cX9_besides 7 (some .int) ∈ lw_tbl := List.mem_of_getElem? (i := 1186) (by decide +kernel)
theorem mw_649 : Cond.methodLink RX9 264 yX9_besides ∈ lw_tbl := List.mem_of_getElem? (i := 1183) (by decide +kernel)
theorem mw_650 : Cond.instanceMethod yX9_besides ∈ lw_tbl := List.mem_of_getElem? (i := 1185) (by decide +kernel)
theorem mw_651 : Cond.selects RX9 yX9_besides yX9_besides ∈ lw_tbl := List.mem_of_getElem? (i := 77) (by decide +kernel)
theorem mf_X9_264 : MFv RX9 264 yX9_besides cX9_besides 7 (some .int) 2 := ⟨⟨lg_in mw_648 rfl, lg_in mw_457 rfl, by decide +kernel, Or.inl (lg_in mw_649 rfl)⟩, lg_in mw_650 rfl, lg_in mw_651 rfl⟩
theorem mw_652 : Cond.code yX9_lot cX9_lot 2 (some .int) ∈ lw_tbl := List.mem_of_getElem? (i := 1190) (by decide +kernel)
theorem mw_653 : Cond.methodLink RX9 267 yX9_lot ∈ lw_tbl := List.mem_of_getElem? (i := 1187) (by decide +kernel)
theorem mw_654 : Cond.instanceMethod yX9_lot ∈ lw_tbl := List.mem_of_getElem? (i := 1189) (by decide +kernel)
theorem mw_655 : Cond.selects RX9 yX9_lot yX9_lot ∈ lw_tbl := List.mem_of_getElem? (i := 78) (by decide +kernel)
theorem mf_X9_267 : MFv RX9 267 yX9_lot cX9_lot 2 (some .int) 1 := ⟨⟨lg_in mw_652 rfl, lg_in mw_457 rfl, by decide +kernel, Or.inl (lg_in mw_653 rfl)⟩, lg_in mw_654 rfl, lg_in mw_655 rfl⟩
theorem mw_656 : Cond.constantLong RX9 270 60 ∈ lw_tbl := List.mem_of_getElem? (i := 1178) (by decide +kernel)
theorem mw_657 : Cond.code yX9_roamOf cX9_roamOf 10 (some .int) ∈ lw_tbl := List.mem_of_getElem? (i := 1182) (by decide +kernel)
theorem mw_658 : Cond.methodLink RX9 272 yX9_roamOf ∈ lw_tbl := List.mem_of_getElem? (i := 1179) (by decide +kernel)
theorem mw_659 : Cond.instanceMethod yX9_roamOf ∈ lw_tbl := List.mem_of_getElem? (i := 1181) (by decide +kernel)
theorem mw_660 : Cond.selects RX9 yX9_roamOf yX9_roamOf ∈ lw_tbl := List.mem_of_getElem? (i := 76) (by decide +kernel)
theorem mf_X9_272 : MFv RX9 272 yX9_roamOf cX9_roamOf 10 (some .int) 3 := ⟨⟨lg_in mw_657 rfl, lg_in mw_457 rfl, by decide +kernel, Or.inl (lg_in mw_658 rfl)⟩, lg_in mw_659 rfl, lg_in mw_660 rfl⟩
theorem mw_661 : Cond.constantLong RX9 275 31 ∈ lw_tbl := List.mem_of_getElem? (i := 1205) (by decide +kernel)
theorem mw_662 : Cond.constantLong RX9 277 17 ∈ lw_tbl := List.mem_of_getElem? (i := 1204) (by decide +kernel)
theorem mw_663 : Cond.code yX9_count cX9_count 2 (some .int) ∈ lw_tbl := List.mem_of_getElem? (i := 1199) (by decide +kernel)
theorem mw_664 : Cond.methodLink RX9 279 yX9_count ∈ lw_tbl := List.mem_of_getElem? (i := 1206) (by decide +kernel)
theorem mw_665 : Cond.instanceMethod yX9_count ∈ lw_tbl := List.mem_of_getElem? (i := 1197) (by decide +kernel)
theorem mw_666 : Cond.selects RX9 yX9_count yX9_count ∈ lw_tbl := List.mem_of_getElem? (i := 1198) (by decide +kernel)
theorem mf_X9_279 : MFv RX9 279 yX9_count cX9_count 2 (some .int) 1 := ⟨⟨lg_in mw_663 rfl, lg_in mw_457 rfl, by decide +kernel, Or.inl (lg_in mw_664 rfl)⟩, lg_in mw_665 rfl, lg_in mw_666 rfl⟩
theorem mw_667 : Cond.code yX9_tellsHouse cX9_tellsHouse 6 (some .long) ∈ lw_tbl := List.mem_of_getElem? (i := 1210) (by decide +kernel)
theorem mw_668 : Cond.methodLink RX9 282 yX9_tellsHouse ∈ lw_tbl := List.mem_of_getElem? (i := 1207) (by decide +kernel)
theorem mw_669 : Cond.instanceMethod yX9_tellsHouse ∈ lw_tbl := List.mem_of_getElem? (i := 1209) (by decide +kernel)
theorem mw_670 : Cond.selects RX9 yX9_tellsHouse yX9_tellsHouse ∈ lw_tbl := List.mem_of_getElem? (i := 79) (by decide +kernel)
theorem mf_X9_282 : MFv RX9 282 yX9_tellsHouse cX9_tellsHouse 6 (some .long) 2 := ⟨⟨lg_in mw_667 rfl, lg_in mw_457 rfl, by decide +kernel, Or.inl (lg_in mw_668 rfl)⟩, lg_in mw_669 rfl, lg_in mw_670 rfl⟩
theorem mw_671 : Cond.code yX9_tellsNight cX9_tellsNight 7 (some .long) ∈ lw_tbl := List.mem_of_getElem? (i := 1214) (by decide +kernel)
theorem mw_672 : Cond.methodLink RX9 286 yX9_tellsNight ∈ lw_tbl := List.mem_of_getElem? (i := 1211) (by decide +kernel)
theorem mw_673 : Cond.instanceMethod yX9_tellsNight ∈ lw_tbl := List.mem_of_getElem? (i := 1213) (by decide +kernel)
theorem mw_674 : Cond.selects RX9 yX9_tellsNight yX9_tellsNight ∈ lw_tbl := List.mem_of_getElem? (i := 80) (by decide +kernel)
theorem mf_X9_286 : MFv RX9 286 yX9_tellsNight cX9_tellsNight 7 (some .long) 2 := ⟨⟨lg_in mw_671 rfl, lg_in mw_457 rfl, by decide +kernel, Or.inl (lg_in mw_672 rfl)⟩, lg_in mw_673 rfl, lg_in mw_674 rfl⟩
theorem mw_675 : Cond.constant RJ6 265 1431655765 ∈ lw_tbl := List.mem_of_getElem? (i := 665) (by decide +kernel)
theorem mw_676 : Cond.constant RJ6 266 858993459 ∈ lw_tbl := List.mem_of_getElem? (i := 666) (by decide +kernel)
theorem mw_677 : Cond.constant RJ6 267 252645135 ∈ lw_tbl := List.mem_of_getElem? (i := 667) (by decide +kernel)
theorem mw_678 : Cond.constantLong RJ13 314 6148914691236517205 ∈ lw_tbl := List.mem_of_getElem? (i := 693) (by decide +kernel)
theorem mw_679 : Cond.constantLong RJ13 316 3689348814741910323 ∈ lw_tbl := List.mem_of_getElem? (i := 694) (by decide +kernel)
theorem mw_680 : Cond.constantLong RJ13 318 1085102592571150095 ∈ lw_tbl := List.mem_of_getElem? (i := 695) (by decide +kernel)
theorem mw_681 : Cond.code yX8_init cX8_init 2 none ∈ lw_tbl := List.mem_of_getElem? (i := 101) (by decide +kernel)
theorem mw_682 : Cond.methodLink RL 9 yX8_init ∈ lw_tbl := List.mem_of_getElem? (i := 99) (by decide +kernel)
theorem mw_683 : Cond.instanceMethod yX8_init ∈ lw_tbl := List.mem_of_getElem? (i := 100) (by decide +kernel)
theorem mf_L_9 : MFb RL 9 yX8_init cX8_init 2 none 0 ∧ Cond.instanceMethod yX8_init ∈ lw_good := ⟨⟨lg_in mw_681 rfl, lg_in mw_167 rfl, by decide +kernel, Or.inl (lg_in mw_682 rfl)⟩, lg_in mw_683 rfl⟩
theorem mw_684 : Cond.code yX9_init cX9_init 2 none ∈ lw_tbl := List.mem_of_getElem? (i := 785) (by decide +kernel)
theorem mw_685 : Cond.methodLink RL 12 yX9_init ∈ lw_tbl := List.mem_of_getElem? (i := 783) (by decide +kernel)
theorem mw_686 : Cond.instanceMethod yX9_init ∈ lw_tbl := List.mem_of_getElem? (i := 784) (by decide +kernel)
theorem mf_L_12 : MFb RL 12 yX9_init cX9_init 2 none 0 ∧ Cond.instanceMethod yX9_init ∈ lw_good := ⟨⟨lg_in mw_684 rfl, lg_in mw_457 rfl, by decide +kernel, Or.inl (lg_in mw_685 rfl)⟩, lg_in mw_686 rfl⟩
theorem mw_687 : Cond.code yX8_type cX8_type 3 (some .int) ∈ lw_tbl := List.mem_of_getElem? (i := 387) (by decide +kernel)
theorem mw_688 : Cond.methodLink RL 13 yX8_type ∈ lw_tbl := List.mem_of_getElem? (i := 384) (by decide +kernel)
theorem mw_689 : Cond.instanceMethod yX8_type ∈ lw_tbl := List.mem_of_getElem? (i := 385) (by decide +kernel)
theorem mw_690 : Cond.selects RX8 yX8_type yX8_type ∈ lw_tbl := List.mem_of_getElem? (i := 386) (by decide +kernel)
theorem mf_L_13 : MFv RL 13 yX8_type cX8_type 3 (some .int) 2 := ⟨⟨lg_in mw_687 rfl, lg_in mw_167 rfl, by decide +kernel, Or.inl (lg_in mw_688 rfl)⟩, lg_in mw_689 rfl, lg_in mw_690 rfl⟩
theorem mw_691 : Cond.code yX9_type cX9_type 3 (some .int) ∈ lw_tbl := List.mem_of_getElem? (i := 906) (by decide +kernel)
theorem mw_692 : Cond.methodLink RL 17 yX9_type ∈ lw_tbl := List.mem_of_getElem? (i := 903) (by decide +kernel)
theorem mw_693 : Cond.instanceMethod yX9_type ∈ lw_tbl := List.mem_of_getElem? (i := 904) (by decide +kernel)
theorem mw_694 : Cond.selects RX9 yX9_type yX9_type ∈ lw_tbl := List.mem_of_getElem? (i := 905) (by decide +kernel)
theorem mf_L_17 : MFv RL 17 yX9_type cX9_type 3 (some .int) 2 := ⟨⟨lg_in mw_691 rfl, lg_in mw_457 rfl, by decide +kernel, Or.inl (lg_in mw_692 rfl)⟩, lg_in mw_693 rfl, lg_in mw_694 rfl⟩
theorem mw_695 : Cond.code yX8_wipe cX8_wipe 3 (some .int) ∈ lw_tbl := List.mem_of_getElem? (i := 439) (by decide +kernel)
theorem mw_696 : Cond.methodLink RL 18 yX8_wipe ∈ lw_tbl := List.mem_of_getElem? (i := 436) (by decide +kernel)
theorem mw_697 : Cond.instanceMethod yX8_wipe ∈ lw_tbl := List.mem_of_getElem? (i := 437) (by decide +kernel)
theorem mw_698 : Cond.selects RX8 yX8_wipe yX8_wipe ∈ lw_tbl := List.mem_of_getElem? (i := 438) (by decide +kernel)
theorem mf_L_18 : MFv RL 18 yX8_wipe cX8_wipe 3 (some .int) 1 := ⟨⟨lg_in mw_695 rfl, lg_in mw_167 rfl, by decide +kernel, Or.inl (lg_in mw_696 rfl)⟩, lg_in mw_697 rfl, lg_in mw_698 rfl⟩
theorem mw_699 : Cond.code yX9_wipe cX9_wipe 3 (some .int) ∈ lw_tbl := List.mem_of_getElem? (i := 914) (by decide +kernel)
theorem mw_700 : Cond.methodLink RL 22 yX9_wipe ∈ lw_tbl := List.mem_of_getElem? (i := 911) (by decide +kernel)
theorem mw_701 : Cond.instanceMethod yX9_wipe ∈ lw_tbl := List.mem_of_getElem? (i := 912) (by decide +kernel)
theorem mw_702 : Cond.selects RX9 yX9_wipe yX9_wipe ∈ lw_tbl := List.mem_of_getElem? (i := 913) (by decide +kernel)
theorem mf_L_22 : MFv RL 22 yX9_wipe cX9_wipe 3 (some .int) 1 := ⟨⟨lg_in mw_699 rfl, lg_in mw_457 rfl, by decide +kernel, Or.inl (lg_in mw_700 rfl)⟩, lg_in mw_701 rfl, lg_in mw_702 rfl⟩
theorem mw_703 : Cond.code yX8_undo cX8_undo 2 (some .int) ∈ lw_tbl := List.mem_of_getElem? (i := 443) (by decide +kernel)
theorem mw_704 : Cond.methodLink RL 23 yX8_undo ∈ lw_tbl := List.mem_of_getElem? (i := 440) (by decide +kernel)
theorem mw_705 : Cond.instanceMethod yX8_undo ∈ lw_tbl := List.mem_of_getElem? (i := 441) (by decide +kernel)
theorem mw_706 : Cond.selects RX8 yX8_undo yX8_undo ∈ lw_tbl := List.mem_of_getElem? (i := 442) (by decide +kernel)
theorem mf_L_23 : MFv RL 23 yX8_undo cX8_undo 2 (some .int) 1 := ⟨⟨lg_in mw_703 rfl, lg_in mw_167 rfl, by decide +kernel, Or.inl (lg_in mw_704 rfl)⟩, lg_in mw_705 rfl, lg_in mw_706 rfl⟩
theorem mw_707 : Cond.code yX9_undo cX9_undo 2 (some .int) ∈ lw_tbl := List.mem_of_getElem? (i := 918) (by decide +kernel)
theorem mw_708 : Cond.methodLink RL 26 yX9_undo ∈ lw_tbl := List.mem_of_getElem? (i := 915) (by decide +kernel)
theorem mw_709 : Cond.instanceMethod yX9_undo ∈ lw_tbl := List.mem_of_getElem? (i := 916) (by decide +kernel)
theorem mw_710 : Cond.selects RX9 yX9_undo yX9_undo ∈ lw_tbl := List.mem_of_getElem? (i := 917) (by decide +kernel)
theorem mf_L_26 : MFv RL 26 yX9_undo cX9_undo 2 (some .int) 1 := ⟨⟨lg_in mw_707 rfl, lg_in mw_457 rfl, by decide +kernel, Or.inl (lg_in mw_708 rfl)⟩, lg_in mw_709 rfl, lg_in mw_710 rfl⟩
theorem mw_711 : Cond.methodLink RL 27 yX8_fault ∈ lw_tbl := List.mem_of_getElem? (i := 444) (by decide +kernel)
theorem mf_L_27 : MFv RL 27 yX8_fault cX8_fault 2 (some .int) 1 := ⟨⟨lg_in mw_362 rfl, lg_in mw_167 rfl, by decide +kernel, Or.inl (lg_in mw_711 rfl)⟩, lg_in mw_364 rfl, lg_in mw_365 rfl⟩
theorem mw_712 : Cond.code yX9_fault cX9_fault 2 (some .int) ∈ lw_tbl := List.mem_of_getElem? (i := 922) (by decide +kernel)
theorem mw_713 : Cond.methodLink RL 30 yX9_fault ∈ lw_tbl := List.mem_of_getElem? (i := 919) (by decide +kernel)
theorem mw_714 : Cond.instanceMethod yX9_fault ∈ lw_tbl := List.mem_of_getElem? (i := 920) (by decide +kernel)
theorem mw_715 : Cond.selects RX9 yX9_fault yX9_fault ∈ lw_tbl := List.mem_of_getElem? (i := 921) (by decide +kernel)
theorem mf_L_30 : MFv RL 30 yX9_fault cX9_fault 2 (some .int) 1 := ⟨⟨lg_in mw_712 rfl, lg_in mw_457 rfl, by decide +kernel, Or.inl (lg_in mw_713 rfl)⟩, lg_in mw_714 rfl, lg_in mw_715 rfl⟩
theorem mw_716 : Cond.methodLink RL 31 yX8_cell ∈ lw_tbl := List.mem_of_getElem? (i := 448) (by decide +kernel)
theorem mf_L_31 : MFv RL 31 yX8_cell cX8_cell 2 (some .int) 1 := ⟨⟨lg_in mw_366 rfl, lg_in mw_167 rfl, by decide +kernel, Or.inl (lg_in mw_716 rfl)⟩, lg_in mw_368 rfl, lg_in mw_369 rfl⟩
theorem mw_717 : Cond.code yX9_cell cX9_cell 2 (some .int) ∈ lw_tbl := List.mem_of_getElem? (i := 944) (by decide +kernel)
theorem mw_718 : Cond.methodLink RL 34 yX9_cell ∈ lw_tbl := List.mem_of_getElem? (i := 941) (by decide +kernel)
theorem mw_719 : Cond.instanceMethod yX9_cell ∈ lw_tbl := List.mem_of_getElem? (i := 942) (by decide +kernel)
theorem mw_720 : Cond.selects RX9 yX9_cell yX9_cell ∈ lw_tbl := List.mem_of_getElem? (i := 943) (by decide +kernel)
theorem mf_L_34 : MFv RL 34 yX9_cell cX9_cell 2 (some .int) 1 := ⟨⟨lg_in mw_717 rfl, lg_in mw_457 rfl, by decide +kernel, Or.inl (lg_in mw_718 rfl)⟩, lg_in mw_719 rfl, lg_in mw_720 rfl⟩
theorem mw_721 : Cond.methodLink RL 35 yX8_house ∈ lw_tbl := List.mem_of_getElem? (i := 452) (by decide +kernel)
theorem mf_L_35 : MFv RL 35 yX8_house cX8_house 3 (some .int) 2 := ⟨⟨lg_in mw_402 rfl, lg_in mw_167 rfl, by decide +kernel, Or.inl (lg_in mw_721 rfl)⟩, lg_in mw_404 rfl, lg_in mw_405 rfl⟩
theorem mw_722 : Cond.code yX9_house cX9_house 3 (some .int) ∈ lw_tbl := List.mem_of_getElem? (i := 949) (by decide +kernel)
theorem mw_723 : Cond.methodLink RL 38 yX9_house ∈ lw_tbl := List.mem_of_getElem? (i := 946) (by decide +kernel)
theorem mw_724 : Cond.instanceMethod yX9_house ∈ lw_tbl := List.mem_of_getElem? (i := 947) (by decide +kernel)
theorem mw_725 : Cond.selects RX9 yX9_house yX9_house ∈ lw_tbl := List.mem_of_getElem? (i := 948) (by decide +kernel)
theorem mf_L_38 : MFv RL 38 yX9_house cX9_house 3 (some .int) 2 := ⟨⟨lg_in mw_722 rfl, lg_in mw_457 rfl, by decide +kernel, Or.inl (lg_in mw_723 rfl)⟩, lg_in mw_724 rfl, lg_in mw_725 rfl⟩
theorem mw_726 : Cond.code yX8_set cX8_set 4 (some .int) ∈ lw_tbl := List.mem_of_getElem? (i := 463) (by decide +kernel)
theorem mw_727 : Cond.methodLink RL 39 yX8_set ∈ lw_tbl := List.mem_of_getElem? (i := 460) (by decide +kernel)
theorem mw_728 : Cond.instanceMethod yX8_set ∈ lw_tbl := List.mem_of_getElem? (i := 461) (by decide +kernel)
theorem mw_729 : Cond.selects RX8 yX8_set yX8_set ∈ lw_tbl := List.mem_of_getElem? (i := 462) (by decide +kernel)
theorem mf_L_39 : MFv RL 39 yX8_set cX8_set 4 (some .int) 2 := ⟨⟨lg_in mw_726 rfl, lg_in mw_167 rfl, by decide +kernel, Or.inl (lg_in mw_727 rfl)⟩, lg_in mw_728 rfl, lg_in mw_729 rfl⟩
theorem mw_730 : Cond.code yX9_set cX9_set 4 (some .int) ∈ lw_tbl := List.mem_of_getElem? (i := 957) (by decide +kernel)
theorem mw_731 : Cond.methodLink RL 42 yX9_set ∈ lw_tbl := List.mem_of_getElem? (i := 954) (by decide +kernel)
theorem mw_732 : Cond.instanceMethod yX9_set ∈ lw_tbl := List.mem_of_getElem? (i := 955) (by decide +kernel)
theorem mw_733 : Cond.selects RX9 yX9_set yX9_set ∈ lw_tbl := List.mem_of_getElem? (i := 956) (by decide +kernel)
theorem mf_L_42 : MFv RL 42 yX9_set cX9_set 4 (some .int) 2 := ⟨⟨lg_in mw_730 rfl, lg_in mw_457 rfl, by decide +kernel, Or.inl (lg_in mw_731 rfl)⟩, lg_in mw_732 rfl, lg_in mw_733 rfl⟩
theorem mw_734 : Cond.code yX8_bowl cX8_bowl 3 (some .int) ∈ lw_tbl := List.mem_of_getElem? (i := 467) (by decide +kernel)
theorem mw_735 : Cond.methodLink RL 43 yX8_bowl ∈ lw_tbl := List.mem_of_getElem? (i := 464) (by decide +kernel)
theorem mw_736 : Cond.instanceMethod yX8_bowl ∈ lw_tbl := List.mem_of_getElem? (i := 465) (by decide +kernel)
theorem mw_737 : Cond.selects RX8 yX8_bowl yX8_bowl ∈ lw_tbl := List.mem_of_getElem? (i := 466) (by decide +kernel)
theorem mf_L_43 : MFv RL 43 yX8_bowl cX8_bowl 3 (some .int) 2 := ⟨⟨lg_in mw_734 rfl, lg_in mw_167 rfl, by decide +kernel, Or.inl (lg_in mw_735 rfl)⟩, lg_in mw_736 rfl, lg_in mw_737 rfl⟩
theorem mw_738 : Cond.methodLink RL 46 yX9_bowl ∈ lw_tbl := List.mem_of_getElem? (i := 960) (by decide +kernel)
theorem mf_L_46 : MFv RL 46 yX9_bowl cX9_bowl 3 (some .int) 2 := ⟨⟨lg_in mw_520 rfl, lg_in mw_457 rfl, by decide +kernel, Or.inl (lg_in mw_738 rfl)⟩, lg_in mw_522 rfl, lg_in mw_523 rfl⟩
theorem mw_739 : Cond.code yX8_dog cX8_dog 3 (some .int) ∈ lw_tbl := List.mem_of_getElem? (i := 482) (by decide +kernel)
theorem mw_740 : Cond.methodLink RL 47 yX8_dog ∈ lw_tbl := List.mem_of_getElem? (i := 479) (by decide +kernel)
theorem mw_741 : Cond.instanceMethod yX8_dog ∈ lw_tbl := List.mem_of_getElem? (i := 480) (by decide +kernel)
theorem mw_742 : Cond.selects RX8 yX8_dog yX8_dog ∈ lw_tbl := List.mem_of_getElem? (i := 481) (by decide +kernel)
theorem mf_L_47 : MFv RL 47 yX8_dog cX8_dog 3 (some .int) 2 := ⟨⟨lg_in mw_739 rfl, lg_in mw_167 rfl, by decide +kernel, Or.inl (lg_in mw_740 rfl)⟩, lg_in mw_741 rfl, lg_in mw_742 rfl⟩
theorem mw_743 : Cond.code yX9_dog cX9_dog 3 (some .int) ∈ lw_tbl := List.mem_of_getElem? (i := 975) (by decide +kernel)
theorem mw_744 : Cond.methodLink RL 50 yX9_dog ∈ lw_tbl := List.mem_of_getElem? (i := 972) (by decide +kernel)
theorem mw_745 : Cond.instanceMethod yX9_dog ∈ lw_tbl := List.mem_of_getElem? (i := 973) (by decide +kernel)
theorem mw_746 : Cond.selects RX9 yX9_dog yX9_dog ∈ lw_tbl := List.mem_of_getElem? (i := 974) (by decide +kernel)
theorem mf_L_50 : MFv RL 50 yX9_dog cX9_dog 3 (some .int) 2 := ⟨⟨lg_in mw_743 rfl, lg_in mw_457 rfl, by decide +kernel, Or.inl (lg_in mw_744 rfl)⟩, lg_in mw_745 rfl, lg_in mw_746 rfl⟩
theorem mw_747 : Cond.code yX8_back cX8_back 3 (some .int) ∈ lw_tbl := List.mem_of_getElem? (i := 486) (by decide +kernel)
theorem mw_748 : Cond.methodLink RL 51 yX8_back ∈ lw_tbl := List.mem_of_getElem? (i := 483) (by decide +kernel)
theorem mw_749 : Cond.instanceMethod yX8_back ∈ lw_tbl := List.mem_of_getElem? (i := 484) (by decide +kernel)
theorem mw_750 : Cond.selects RX8 yX8_back yX8_back ∈ lw_tbl := List.mem_of_getElem? (i := 485) (by decide +kernel)
theorem mf_L_51 : MFv RL 51 yX8_back cX8_back 3 (some .int) 1 := ⟨⟨lg_in mw_747 rfl, lg_in mw_167 rfl, by decide +kernel, Or.inl (lg_in mw_748 rfl)⟩, lg_in mw_749 rfl, lg_in mw_750 rfl⟩
theorem mw_751 : Cond.code yX9_back cX9_back 3 (some .int) ∈ lw_tbl := List.mem_of_getElem? (i := 979) (by decide +kernel)
theorem mw_752 : Cond.methodLink RL 54 yX9_back ∈ lw_tbl := List.mem_of_getElem? (i := 976) (by decide +kernel)
theorem mw_753 : Cond.instanceMethod yX9_back ∈ lw_tbl := List.mem_of_getElem? (i := 977) (by decide +kernel)
theorem mw_754 : Cond.selects RX9 yX9_back yX9_back ∈ lw_tbl := List.mem_of_getElem? (i := 978) (by decide +kernel)
theorem mf_L_54 : MFv RL 54 yX9_back cX9_back 3 (some .int) 1 := ⟨⟨lg_in mw_751 rfl, lg_in mw_457 rfl, by decide +kernel, Or.inl (lg_in mw_752 rfl)⟩, lg_in mw_753 rfl, lg_in mw_754 rfl⟩
theorem mw_755 : Cond.code yX8_read cX8_read 5 (some .int) ∈ lw_tbl := List.mem_of_getElem? (i := 490) (by decide +kernel)
theorem mw_756 : Cond.methodLink RL 55 yX8_read ∈ lw_tbl := List.mem_of_getElem? (i := 487) (by decide +kernel)
theorem mw_757 : Cond.instanceMethod yX8_read ∈ lw_tbl := List.mem_of_getElem? (i := 488) (by decide +kernel)
theorem mw_758 : Cond.selects RX8 yX8_read yX8_read ∈ lw_tbl := List.mem_of_getElem? (i := 489) (by decide +kernel)
theorem mf_L_55 : MFv RL 55 yX8_read cX8_read 5 (some .int) 1 := ⟨⟨lg_in mw_755 rfl, lg_in mw_167 rfl, by decide +kernel, Or.inl (lg_in mw_756 rfl)⟩, lg_in mw_757 rfl, lg_in mw_758 rfl⟩
theorem mw_759 : Cond.code yX9_read cX9_read 4 (some .int) ∈ lw_tbl := List.mem_of_getElem? (i := 983) (by decide +kernel)
theorem mw_760 : Cond.methodLink RL 58 yX9_read ∈ lw_tbl := List.mem_of_getElem? (i := 980) (by decide +kernel)
theorem mw_761 : Cond.instanceMethod yX9_read ∈ lw_tbl := List.mem_of_getElem? (i := 981) (by decide +kernel)
theorem mw_762 : Cond.selects RX9 yX9_read yX9_read ∈ lw_tbl := List.mem_of_getElem? (i := 982) (by decide +kernel)
theorem mf_L_58 : MFv RL 58 yX9_read cX9_read 4 (some .int) 1 := ⟨⟨lg_in mw_759 rfl, lg_in mw_457 rfl, by decide +kernel, Or.inl (lg_in mw_760 rfl)⟩, lg_in mw_761 rfl, lg_in mw_762 rfl⟩
theorem mw_763 : Cond.methodLink RL 59 yX8_at ∈ lw_tbl := List.mem_of_getElem? (i := 495) (by decide +kernel)
theorem mf_L_59 : MFv RL 59 yX8_at cX8_at 3 (some .int) 2 := ⟨⟨lg_in mw_418 rfl, lg_in mw_167 rfl, by decide +kernel, Or.inl (lg_in mw_763 rfl)⟩, lg_in mw_420 rfl, lg_in mw_421 rfl⟩
theorem mw_764 : Cond.code yX9_at cX9_at 3 (some .int) ∈ lw_tbl := List.mem_of_getElem? (i := 988) (by decide +kernel)
theorem mw_765 : Cond.methodLink RL 62 yX9_at ∈ lw_tbl := List.mem_of_getElem? (i := 985) (by decide +kernel)
theorem mw_766 : Cond.instanceMethod yX9_at ∈ lw_tbl := List.mem_of_getElem? (i := 986) (by decide +kernel)
theorem mw_767 : Cond.selects RX9 yX9_at yX9_at ∈ lw_tbl := List.mem_of_getElem? (i := 987) (by decide +kernel)
theorem mf_L_62 : MFv RL 62 yX9_at cX9_at 3 (some .int) 2 := ⟨⟨lg_in mw_764 rfl, lg_in mw_457 rfl, by decide +kernel, Or.inl (lg_in mw_765 rfl)⟩, lg_in mw_766 rfl, lg_in mw_767 rfl⟩
theorem mw_768 : Cond.methodLink RL 63 yX8_goes ∈ lw_tbl := List.mem_of_getElem? (i := 534) (by decide +kernel)
theorem mf_L_63 : MFv RL 63 yX8_goes cX8_goes 2 (some .int) 1 := ⟨⟨lg_in mw_422 rfl, lg_in mw_167 rfl, by decide +kernel, Or.inl (lg_in mw_768 rfl)⟩, lg_in mw_424 rfl, lg_in mw_425 rfl⟩
theorem mw_769 : Cond.code yX9_goes cX9_goes 2 (some .int) ∈ lw_tbl := List.mem_of_getElem? (i := 1039) (by decide +kernel)
theorem mw_770 : Cond.methodLink RL 66 yX9_goes ∈ lw_tbl := List.mem_of_getElem? (i := 1036) (by decide +kernel)
theorem mw_771 : Cond.instanceMethod yX9_goes ∈ lw_tbl := List.mem_of_getElem? (i := 1037) (by decide +kernel)
theorem mw_772 : Cond.selects RX9 yX9_goes yX9_goes ∈ lw_tbl := List.mem_of_getElem? (i := 1038) (by decide +kernel)
theorem mf_L_66 : MFv RL 66 yX9_goes cX9_goes 2 (some .int) 1 := ⟨⟨lg_in mw_769 rfl, lg_in mw_457 rfl, by decide +kernel, Or.inl (lg_in mw_770 rfl)⟩, lg_in mw_771 rfl, lg_in mw_772 rfl⟩
theorem mw_773 : Cond.methodLink RL 67 yX8_line ∈ lw_tbl := List.mem_of_getElem? (i := 538) (by decide +kernel)
theorem mf_L_67 : MFv RL 67 yX8_line cX8_line 3 (some .int) 2 := ⟨⟨lg_in mw_434 rfl, lg_in mw_167 rfl, by decide +kernel, Or.inl (lg_in mw_773 rfl)⟩, lg_in mw_436 rfl, lg_in mw_437 rfl⟩
theorem mw_774 : Cond.code yX9_line cX9_line 3 (some .int) ∈ lw_tbl := List.mem_of_getElem? (i := 1047) (by decide +kernel)
theorem mw_775 : Cond.methodLink RL 70 yX9_line ∈ lw_tbl := List.mem_of_getElem? (i := 1044) (by decide +kernel)
theorem mw_776 : Cond.instanceMethod yX9_line ∈ lw_tbl := List.mem_of_getElem? (i := 1045) (by decide +kernel)
theorem mw_777 : Cond.selects RX9 yX9_line yX9_line ∈ lw_tbl := List.mem_of_getElem? (i := 1046) (by decide +kernel)
theorem mf_L_70 : MFv RL 70 yX9_line cX9_line 3 (some .int) 2 := ⟨⟨lg_in mw_774 rfl, lg_in mw_457 rfl, by decide +kernel, Or.inl (lg_in mw_775 rfl)⟩, lg_in mw_776 rfl, lg_in mw_777 rfl⟩
theorem mw_778 : Cond.methodLink RL 71 yX8_realm ∈ lw_tbl := List.mem_of_getElem? (i := 542) (by decide +kernel)
theorem mf_L_71 : MFv RL 71 yX8_realm cX8_realm 3 (some .int) 2 := ⟨⟨lg_in mw_370 rfl, lg_in mw_167 rfl, by decide +kernel, Or.inl (lg_in mw_778 rfl)⟩, lg_in mw_372 rfl, lg_in mw_373 rfl⟩
theorem mw_779 : Cond.code yX9_realm cX9_realm 3 (some .int) ∈ lw_tbl := List.mem_of_getElem? (i := 1051) (by decide +kernel)
theorem mw_780 : Cond.methodLink RL 74 yX9_realm ∈ lw_tbl := List.mem_of_getElem? (i := 1048) (by decide +kernel)
theorem mw_781 : Cond.instanceMethod yX9_realm ∈ lw_tbl := List.mem_of_getElem? (i := 1049) (by decide +kernel)
theorem mw_782 : Cond.selects RX9 yX9_realm yX9_realm ∈ lw_tbl := List.mem_of_getElem? (i := 1050) (by decide +kernel)
theorem mf_L_74 : MFv RL 74 yX9_realm cX9_realm 3 (some .int) 2 := ⟨⟨lg_in mw_779 rfl, lg_in mw_457 rfl, by decide +kernel, Or.inl (lg_in mw_780 rfl)⟩, lg_in mw_781 rfl, lg_in mw_782 rfl⟩
theorem mw_783 : Cond.methodLink RL 75 yX8_lies ∈ lw_tbl := List.mem_of_getElem? (i := 550) (by decide +kernel)
theorem mf_L_75 : MFv RL 75 yX8_lies cX8_lies 3 (some .int) 2 := ⟨⟨lg_in mw_406 rfl, lg_in mw_167 rfl, by decide +kernel, Or.inl (lg_in mw_783 rfl)⟩, lg_in mw_408 rfl, lg_in mw_409 rfl⟩
theorem mw_784 : Cond.code yX9_lies cX9_lies 3 (some .int) ∈ lw_tbl := List.mem_of_getElem? (i := 1059) (by decide +kernel)
theorem mw_785 : Cond.methodLink RL 78 yX9_lies ∈ lw_tbl := List.mem_of_getElem? (i := 1056) (by decide +kernel)
theorem mw_786 : Cond.instanceMethod yX9_lies ∈ lw_tbl := List.mem_of_getElem? (i := 1057) (by decide +kernel)
theorem mw_787 : Cond.selects RX9 yX9_lies yX9_lies ∈ lw_tbl := List.mem_of_getElem? (i := 1058) (by decide +kernel)
theorem mf_L_78 : MFv RL 78 yX9_lies cX9_lies 3 (some .int) 2 := ⟨⟨lg_in mw_784 rfl, lg_in mw_457 rfl, by decide +kernel, Or.inl (lg_in mw_785 rfl)⟩, lg_in mw_786 rfl, lg_in mw_787 rfl⟩
theorem mw_788 : Cond.methodLink RL 79 yX8_changes ∈ lw_tbl := List.mem_of_getElem? (i := 554) (by decide +kernel)
theorem mf_L_79 : MFv RL 79 yX8_changes cX8_changes 6 (some .int) 1 := ⟨⟨lg_in mw_410 rfl, lg_in mw_167 rfl, by decide +kernel, Or.inl (lg_in mw_788 rfl)⟩, lg_in mw_412 rfl, lg_in mw_413 rfl⟩
theorem mw_789 : Cond.code yX9_changes cX9_changes 2 (some .int) ∈ lw_tbl := List.mem_of_getElem? (i := 1067) (by decide +kernel)
theorem mw_790 : Cond.methodLink RL 82 yX9_changes ∈ lw_tbl := List.mem_of_getElem? (i := 1064) (by decide +kernel)
theorem mw_791 : Cond.instanceMethod yX9_changes ∈ lw_tbl := List.mem_of_getElem? (i := 1065) (by decide +kernel)
theorem mw_792 : Cond.selects RX9 yX9_changes yX9_changes ∈ lw_tbl := List.mem_of_getElem? (i := 1066) (by decide +kernel)
theorem mf_L_82 : MFv RL 82 yX9_changes cX9_changes 2 (some .int) 1 := ⟨⟨lg_in mw_789 rfl, lg_in mw_457 rfl, by decide +kernel, Or.inl (lg_in mw_790 rfl)⟩, lg_in mw_791 rfl, lg_in mw_792 rfl⟩
theorem mw_793 : Cond.methodLink RL 83 yX8_taxes ∈ lw_tbl := List.mem_of_getElem? (i := 558) (by decide +kernel)
theorem mf_L_83 : MFv RL 83 yX8_taxes cX8_taxes 7 (some .int) 2 := ⟨⟨lg_in mw_430 rfl, lg_in mw_167 rfl, by decide +kernel, Or.inl (lg_in mw_793 rfl)⟩, lg_in mw_432 rfl, lg_in mw_433 rfl⟩
theorem mw_794 : Cond.code yX9_taxes cX9_taxes 3 (some .int) ∈ lw_tbl := List.mem_of_getElem? (i := 1075) (by decide +kernel)
theorem mw_795 : Cond.methodLink RL 86 yX9_taxes ∈ lw_tbl := List.mem_of_getElem? (i := 1072) (by decide +kernel)
theorem mw_796 : Cond.instanceMethod yX9_taxes ∈ lw_tbl := List.mem_of_getElem? (i := 1073) (by decide +kernel)
theorem mw_797 : Cond.selects RX9 yX9_taxes yX9_taxes ∈ lw_tbl := List.mem_of_getElem? (i := 1074) (by decide +kernel)
theorem mf_L_86 : MFv RL 86 yX9_taxes cX9_taxes 3 (some .int) 2 := ⟨⟨lg_in mw_794 rfl, lg_in mw_457 rfl, by decide +kernel, Or.inl (lg_in mw_795 rfl)⟩, lg_in mw_796 rfl, lg_in mw_797 rfl⟩
theorem mw_798 : Cond.methodLink RL 87 yX8_first ∈ lw_tbl := List.mem_of_getElem? (i := 562) (by decide +kernel)
theorem mf_L_87 : MFv RL 87 yX8_first cX8_first 5 (some .int) 1 := ⟨⟨lg_in mw_382 rfl, lg_in mw_167 rfl, by decide +kernel, Or.inl (lg_in mw_798 rfl)⟩, lg_in mw_384 rfl, lg_in mw_385 rfl⟩
theorem mw_799 : Cond.code yX9_first cX9_first 2 (some .int) ∈ lw_tbl := List.mem_of_getElem? (i := 1083) (by decide +kernel)
theorem mw_800 : Cond.methodLink RL 90 yX9_first ∈ lw_tbl := List.mem_of_getElem? (i := 1080) (by decide +kernel)
theorem mw_801 : Cond.instanceMethod yX9_first ∈ lw_tbl := List.mem_of_getElem? (i := 1081) (by decide +kernel)
theorem mw_802 : Cond.selects RX9 yX9_first yX9_first ∈ lw_tbl := List.mem_of_getElem? (i := 1082) (by decide +kernel)
theorem mf_L_90 : MFv RL 90 yX9_first cX9_first 2 (some .int) 1 := ⟨⟨lg_in mw_799 rfl, lg_in mw_457 rfl, by decide +kernel, Or.inl (lg_in mw_800 rfl)⟩, lg_in mw_801 rfl, lg_in mw_802 rfl⟩
theorem mw_803 : Cond.code yX8_layOut cX8_layOut 5 (some .int) ∈ lw_tbl := List.mem_of_getElem? (i := 569) (by decide +kernel)
theorem mw_804 : Cond.methodLink RL 91 yX8_layOut ∈ lw_tbl := List.mem_of_getElem? (i := 566) (by decide +kernel)
theorem mw_805 : Cond.instanceMethod yX8_layOut ∈ lw_tbl := List.mem_of_getElem? (i := 567) (by decide +kernel)
theorem mw_806 : Cond.selects RX8 yX8_layOut yX8_layOut ∈ lw_tbl := List.mem_of_getElem? (i := 568) (by decide +kernel)
theorem mf_L_91 : MFv RL 91 yX8_layOut cX8_layOut 5 (some .int) 4 := ⟨⟨lg_in mw_803 rfl, lg_in mw_167 rfl, by decide +kernel, Or.inl (lg_in mw_804 rfl)⟩, lg_in mw_805 rfl, lg_in mw_806 rfl⟩
theorem mw_807 : Cond.code yX9_layOut cX9_layOut 5 (some .int) ∈ lw_tbl := List.mem_of_getElem? (i := 1091) (by decide +kernel)
theorem mw_808 : Cond.methodLink RL 95 yX9_layOut ∈ lw_tbl := List.mem_of_getElem? (i := 1088) (by decide +kernel)
theorem mw_809 : Cond.instanceMethod yX9_layOut ∈ lw_tbl := List.mem_of_getElem? (i := 1089) (by decide +kernel)
theorem mw_810 : Cond.selects RX9 yX9_layOut yX9_layOut ∈ lw_tbl := List.mem_of_getElem? (i := 1090) (by decide +kernel)
theorem mf_L_95 : MFv RL 95 yX9_layOut cX9_layOut 5 (some .int) 4 := ⟨⟨lg_in mw_807 rfl, lg_in mw_457 rfl, by decide +kernel, Or.inl (lg_in mw_808 rfl)⟩, lg_in mw_809 rfl, lg_in mw_810 rfl⟩
theorem mw_811 : Cond.methodLink RL 96 yX8_rake ∈ lw_tbl := List.mem_of_getElem? (i := 599) (by decide +kernel)
theorem mf_L_96 : MFv RL 96 yX8_rake cX8_rake 5 (some .int) 3 := ⟨⟨lg_in mw_414 rfl, lg_in mw_167 rfl, by decide +kernel, Or.inl (lg_in mw_811 rfl)⟩, lg_in mw_416 rfl, lg_in mw_417 rfl⟩
theorem mw_812 : Cond.code yX9_rake cX9_rake 4 (some .int) ∈ lw_tbl := List.mem_of_getElem? (i := 1104) (by decide +kernel)
theorem mw_813 : Cond.methodLink RL 100 yX9_rake ∈ lw_tbl := List.mem_of_getElem? (i := 1101) (by decide +kernel)
theorem mw_814 : Cond.instanceMethod yX9_rake ∈ lw_tbl := List.mem_of_getElem? (i := 1102) (by decide +kernel)
theorem mw_815 : Cond.selects RX9 yX9_rake yX9_rake ∈ lw_tbl := List.mem_of_getElem? (i := 1103) (by decide +kernel)
theorem mf_L_100 : MFv RL 100 yX9_rake cX9_rake 4 (some .int) 3 := ⟨⟨lg_in mw_812 rfl, lg_in mw_457 rfl, by decide +kernel, Or.inl (lg_in mw_813 rfl)⟩, lg_in mw_814 rfl, lg_in mw_815 rfl⟩
theorem mw_816 : Cond.methodLink RL 101 yX8_live ∈ lw_tbl := List.mem_of_getElem? (i := 603) (by decide +kernel)
theorem mf_L_101 : MFv RL 101 yX8_live cX8_live 8 (some .int) 2 := ⟨⟨lg_in mw_386 rfl, lg_in mw_167 rfl, by decide +kernel, Or.inl (lg_in mw_816 rfl)⟩, lg_in mw_388 rfl, lg_in mw_389 rfl⟩
theorem mw_817 : Cond.code yX9_live cX9_live 3 (some .int) ∈ lw_tbl := List.mem_of_getElem? (i := 1112) (by decide +kernel)
theorem mw_818 : Cond.methodLink RL 104 yX9_live ∈ lw_tbl := List.mem_of_getElem? (i := 1109) (by decide +kernel)
theorem mw_819 : Cond.instanceMethod yX9_live ∈ lw_tbl := List.mem_of_getElem? (i := 1110) (by decide +kernel)
theorem mw_820 : Cond.selects RX9 yX9_live yX9_live ∈ lw_tbl := List.mem_of_getElem? (i := 1111) (by decide +kernel)
theorem mf_L_104 : MFv RL 104 yX9_live cX9_live 3 (some .int) 2 := ⟨⟨lg_in mw_817 rfl, lg_in mw_457 rfl, by decide +kernel, Or.inl (lg_in mw_818 rfl)⟩, lg_in mw_819 rfl, lg_in mw_820 rfl⟩
theorem mw_821 : Cond.code yX8_seen cX8_seen 4 (some .int) ∈ lw_tbl := List.mem_of_getElem? (i := 618) (by decide +kernel)
theorem mw_822 : Cond.methodLink RL 105 yX8_seen ∈ lw_tbl := List.mem_of_getElem? (i := 615) (by decide +kernel)
theorem mw_823 : Cond.instanceMethod yX8_seen ∈ lw_tbl := List.mem_of_getElem? (i := 616) (by decide +kernel)
theorem mw_824 : Cond.selects RX8 yX8_seen yX8_seen ∈ lw_tbl := List.mem_of_getElem? (i := 617) (by decide +kernel)
theorem mf_L_105 : MFv RL 105 yX8_seen cX8_seen 4 (some .int) 3 := ⟨⟨lg_in mw_821 rfl, lg_in mw_167 rfl, by decide +kernel, Or.inl (lg_in mw_822 rfl)⟩, lg_in mw_823 rfl, lg_in mw_824 rfl⟩
theorem mw_825 : Cond.code yX9_seen cX9_seen 4 (some .int) ∈ lw_tbl := List.mem_of_getElem? (i := 1124) (by decide +kernel)
theorem mw_826 : Cond.methodLink RL 108 yX9_seen ∈ lw_tbl := List.mem_of_getElem? (i := 1121) (by decide +kernel)
theorem mw_827 : Cond.instanceMethod yX9_seen ∈ lw_tbl := List.mem_of_getElem? (i := 1122) (by decide +kernel)
theorem mw_828 : Cond.selects RX9 yX9_seen yX9_seen ∈ lw_tbl := List.mem_of_getElem? (i := 1123) (by decide +kernel)
theorem mf_L_108 : MFv RL 108 yX9_seen cX9_seen 4 (some .int) 3 := ⟨⟨lg_in mw_825 rfl, lg_in mw_457 rfl, by decide +kernel, Or.inl (lg_in mw_826 rfl)⟩, lg_in mw_827 rfl, lg_in mw_828 rfl⟩
theorem mw_829 : Cond.code yX8_forget cX8_forget 2 (some .int) ∈ lw_tbl := List.mem_of_getElem? (i := 622) (by decide +kernel)
theorem mw_830 : Cond.methodLink RL 109 yX8_forget ∈ lw_tbl := List.mem_of_getElem? (i := 619) (by decide +kernel)
theorem mw_831 : Cond.instanceMethod yX8_forget ∈ lw_tbl := List.mem_of_getElem? (i := 620) (by decide +kernel)
theorem mw_832 : Cond.selects RX8 yX8_forget yX8_forget ∈ lw_tbl := List.mem_of_getElem? (i := 621) (by decide +kernel)
theorem mf_L_109 : MFv RL 109 yX8_forget cX8_forget 2 (some .int) 0 := ⟨⟨lg_in mw_829 rfl, lg_in mw_167 rfl, by decide +kernel, Or.inl (lg_in mw_830 rfl)⟩, lg_in mw_831 rfl, lg_in mw_832 rfl⟩
theorem mw_833 : Cond.code yX9_forget cX9_forget 2 (some .int) ∈ lw_tbl := List.mem_of_getElem? (i := 1129) (by decide +kernel)
theorem mw_834 : Cond.methodLink RL 113 yX9_forget ∈ lw_tbl := List.mem_of_getElem? (i := 1126) (by decide +kernel)
theorem mw_835 : Cond.instanceMethod yX9_forget ∈ lw_tbl := List.mem_of_getElem? (i := 1127) (by decide +kernel)
theorem mw_836 : Cond.selects RX9 yX9_forget yX9_forget ∈ lw_tbl := List.mem_of_getElem? (i := 1128) (by decide +kernel)
theorem mf_L_113 : MFv RL 113 yX9_forget cX9_forget 2 (some .int) 0 := ⟨⟨lg_in mw_833 rfl, lg_in mw_457 rfl, by decide +kernel, Or.inl (lg_in mw_834 rfl)⟩, lg_in mw_835 rfl, lg_in mw_836 rfl⟩
theorem mw_837 : Cond.methodLink RL 114 yX8_never ∈ lw_tbl := List.mem_of_getElem? (i := 623) (by decide +kernel)
theorem mf_L_114 : MFv RL 114 yX8_never cX8_never 3 (some .int) 0 := ⟨⟨lg_in mw_390 rfl, lg_in mw_167 rfl, by decide +kernel, Or.inl (lg_in mw_837 rfl)⟩, lg_in mw_392 rfl, lg_in mw_393 rfl⟩
theorem mw_838 : Cond.code yX9_never cX9_never 1 (some .int) ∈ lw_tbl := List.mem_of_getElem? (i := 1133) (by decide +kernel)
theorem mw_839 : Cond.methodLink RL 117 yX9_never ∈ lw_tbl := List.mem_of_getElem? (i := 1130) (by decide +kernel)
theorem mw_840 : Cond.instanceMethod yX9_never ∈ lw_tbl := List.mem_of_getElem? (i := 1131) (by decide +kernel)
theorem mw_841 : Cond.selects RX9 yX9_never yX9_never ∈ lw_tbl := List.mem_of_getElem? (i := 1132) (by decide +kernel)
theorem mf_L_117 : MFv RL 117 yX9_never cX9_never 1 (some .int) 0 := ⟨⟨lg_in mw_838 rfl, lg_in mw_457 rfl, by decide +kernel, Or.inl (lg_in mw_839 rfl)⟩, lg_in mw_840 rfl, lg_in mw_841 rfl⟩
theorem mw_842 : Cond.methodLink RL 118 yX8_began ∈ lw_tbl := List.mem_of_getElem? (i := 631) (by decide +kernel)
theorem mf_L_118 : MFv RL 118 yX8_began cX8_began 3 (some .int) 0 := ⟨⟨lg_in mw_394 rfl, lg_in mw_167 rfl, by decide +kernel, Or.inl (lg_in mw_842 rfl)⟩, lg_in mw_396 rfl, lg_in mw_397 rfl⟩
theorem mw_843 : Cond.code yX9_began cX9_began 1 (some .int) ∈ lw_tbl := List.mem_of_getElem? (i := 1145) (by decide +kernel)
theorem mw_844 : Cond.methodLink RL 121 yX9_began ∈ lw_tbl := List.mem_of_getElem? (i := 1142) (by decide +kernel)
theorem mw_845 : Cond.instanceMethod yX9_began ∈ lw_tbl := List.mem_of_getElem? (i := 1143) (by decide +kernel)
theorem mw_846 : Cond.selects RX9 yX9_began yX9_began ∈ lw_tbl := List.mem_of_getElem? (i := 1144) (by decide +kernel)
theorem mf_L_121 : MFv RL 121 yX9_began cX9_began 1 (some .int) 0 := ⟨⟨lg_in mw_843 rfl, lg_in mw_457 rfl, by decide +kernel, Or.inl (lg_in mw_844 rfl)⟩, lg_in mw_845 rfl, lg_in mw_846 rfl⟩
theorem mw_847 : Cond.methodLink RL 122 yX8_ask ∈ lw_tbl := List.mem_of_getElem? (i := 635) (by decide +kernel)
theorem mf_L_122 : MFv RL 122 yX8_ask cX8_ask 7 (some .int) 1 := ⟨⟨lg_in mw_426 rfl, lg_in mw_167 rfl, by decide +kernel, Or.inl (lg_in mw_847 rfl)⟩, lg_in mw_428 rfl, lg_in mw_429 rfl⟩
theorem mw_848 : Cond.code yX9_ask cX9_ask 2 (some .int) ∈ lw_tbl := List.mem_of_getElem? (i := 1153) (by decide +kernel)
theorem mw_849 : Cond.methodLink RL 125 yX9_ask ∈ lw_tbl := List.mem_of_getElem? (i := 1150) (by decide +kernel)
theorem mw_850 : Cond.instanceMethod yX9_ask ∈ lw_tbl := List.mem_of_getElem? (i := 1151) (by decide +kernel)
theorem mw_851 : Cond.selects RX9 yX9_ask yX9_ask ∈ lw_tbl := List.mem_of_getElem? (i := 1152) (by decide +kernel)
theorem mf_L_125 : MFv RL 125 yX9_ask cX9_ask 2 (some .int) 1 := ⟨⟨lg_in mw_848 rfl, lg_in mw_457 rfl, by decide +kernel, Or.inl (lg_in mw_849 rfl)⟩, lg_in mw_850 rfl, lg_in mw_851 rfl⟩
theorem mw_852 : Cond.code yX8_cat cX8_cat 6 (some .long) ∈ lw_tbl := List.mem_of_getElem? (i := 652) (by decide +kernel)
theorem mw_853 : Cond.methodLink RL 126 yX8_cat ∈ lw_tbl := List.mem_of_getElem? (i := 649) (by decide +kernel)
theorem mw_854 : Cond.instanceMethod yX8_cat ∈ lw_tbl := List.mem_of_getElem? (i := 650) (by decide +kernel)
theorem mw_855 : Cond.selects RX8 yX8_cat yX8_cat ∈ lw_tbl := List.mem_of_getElem? (i := 651) (by decide +kernel)
theorem mf_L_126 : MFv RL 126 yX8_cat cX8_cat 6 (some .long) 5 := ⟨⟨lg_in mw_852 rfl, lg_in mw_167 rfl, by decide +kernel, Or.inl (lg_in mw_853 rfl)⟩, lg_in mw_854 rfl, lg_in mw_855 rfl⟩
theorem mw_856 : Cond.code yX9_cat cX9_cat 6 (some .long) ∈ lw_tbl := List.mem_of_getElem? (i := 1161) (by decide +kernel)
theorem mw_857 : Cond.methodLink RL 130 yX9_cat ∈ lw_tbl := List.mem_of_getElem? (i := 1158) (by decide +kernel)
theorem mw_858 : Cond.instanceMethod yX9_cat ∈ lw_tbl := List.mem_of_getElem? (i := 1159) (by decide +kernel)
theorem mw_859 : Cond.selects RX9 yX9_cat yX9_cat ∈ lw_tbl := List.mem_of_getElem? (i := 1160) (by decide +kernel)
theorem mf_L_130 : MFv RL 130 yX9_cat cX9_cat 6 (some .long) 5 := ⟨⟨lg_in mw_856 rfl, lg_in mw_457 rfl, by decide +kernel, Or.inl (lg_in mw_857 rfl)⟩, lg_in mw_858 rfl, lg_in mw_859 rfl⟩
theorem mw_860 : Cond.methodLink RL 131 yX8_roam ∈ lw_tbl := List.mem_of_getElem? (i := 684) (by decide +kernel)
theorem mf_L_131 : MFv RL 131 yX8_roam cX8_roam 10 (some .int) 3 := ⟨⟨lg_in mw_398 rfl, lg_in mw_167 rfl, by decide +kernel, Or.inl (lg_in mw_860 rfl)⟩, lg_in mw_400 rfl, lg_in mw_401 rfl⟩
theorem mw_861 : Cond.code yX9_roam cX9_roam 4 (some .int) ∈ lw_tbl := List.mem_of_getElem? (i := 1177) (by decide +kernel)
theorem mw_862 : Cond.methodLink RL 134 yX9_roam ∈ lw_tbl := List.mem_of_getElem? (i := 1174) (by decide +kernel)
theorem mw_863 : Cond.instanceMethod yX9_roam ∈ lw_tbl := List.mem_of_getElem? (i := 1175) (by decide +kernel)
theorem mw_864 : Cond.selects RX9 yX9_roam yX9_roam ∈ lw_tbl := List.mem_of_getElem? (i := 1176) (by decide +kernel)
theorem mf_L_134 : MFv RL 134 yX9_roam cX9_roam 4 (some .int) 3 := ⟨⟨lg_in mw_861 rfl, lg_in mw_457 rfl, by decide +kernel, Or.inl (lg_in mw_862 rfl)⟩, lg_in mw_863 rfl, lg_in mw_864 rfl⟩
theorem mw_865 : Cond.code yX8_sheet cX8_sheet 4 (some .int) ∈ lw_tbl := List.mem_of_getElem? (i := 699) (by decide +kernel)
theorem mw_866 : Cond.methodLink RL 135 yX8_sheet ∈ lw_tbl := List.mem_of_getElem? (i := 696) (by decide +kernel)
theorem mw_867 : Cond.instanceMethod yX8_sheet ∈ lw_tbl := List.mem_of_getElem? (i := 697) (by decide +kernel)
theorem mw_868 : Cond.selects RX8 yX8_sheet yX8_sheet ∈ lw_tbl := List.mem_of_getElem? (i := 698) (by decide +kernel)
theorem mf_L_135 : MFv RL 135 yX8_sheet cX8_sheet 4 (some .int) 3 := ⟨⟨lg_in mw_865 rfl, lg_in mw_167 rfl, by decide +kernel, Or.inl (lg_in mw_866 rfl)⟩, lg_in mw_867 rfl, lg_in mw_868 rfl⟩
theorem mw_869 : Cond.code yX9_sheet cX9_sheet 5 (some .int) ∈ lw_tbl := List.mem_of_getElem? (i := 866) (by decide +kernel)
theorem mw_870 : Cond.methodLink RL 138 yX9_sheet ∈ lw_tbl := List.mem_of_getElem? (i := 863) (by decide +kernel)
theorem mw_871 : Cond.instanceMethod yX9_sheet ∈ lw_tbl := List.mem_of_getElem? (i := 864) (by decide +kernel)
theorem mw_872 : Cond.selects RX9 yX9_sheet yX9_sheet ∈ lw_tbl := List.mem_of_getElem? (i := 865) (by decide +kernel)
theorem mf_L_138 : MFv RL 138 yX9_sheet cX9_sheet 5 (some .int) 3 := ⟨⟨lg_in mw_869 rfl, lg_in mw_457 rfl, by decide +kernel, Or.inl (lg_in mw_870 rfl)⟩, lg_in mw_871 rfl, lg_in mw_872 rfl⟩
theorem mw_873 : Cond.code yX8_lose cX8_lose 2 (some .int) ∈ lw_tbl := List.mem_of_getElem? (i := 708) (by decide +kernel)
theorem mw_874 : Cond.methodLink RL 139 yX8_lose ∈ lw_tbl := List.mem_of_getElem? (i := 705) (by decide +kernel)
theorem mw_875 : Cond.instanceMethod yX8_lose ∈ lw_tbl := List.mem_of_getElem? (i := 706) (by decide +kernel)
theorem mw_876 : Cond.selects RX8 yX8_lose yX8_lose ∈ lw_tbl := List.mem_of_getElem? (i := 707) (by decide +kernel)
theorem mf_L_139 : MFv RL 139 yX8_lose cX8_lose 2 (some .int) 1 := ⟨⟨lg_in mw_873 rfl, lg_in mw_167 rfl, by decide +kernel, Or.inl (lg_in mw_874 rfl)⟩, lg_in mw_875 rfl, lg_in mw_876 rfl⟩
theorem mw_877 : Cond.code yX9_lose cX9_lose 2 (some .int) ∈ lw_tbl := List.mem_of_getElem? (i := 882) (by decide +kernel)
theorem mw_878 : Cond.methodLink RL 142 yX9_lose ∈ lw_tbl := List.mem_of_getElem? (i := 879) (by decide +kernel)
theorem mw_879 : Cond.instanceMethod yX9_lose ∈ lw_tbl := List.mem_of_getElem? (i := 880) (by decide +kernel)
theorem mw_880 : Cond.selects RX9 yX9_lose yX9_lose ∈ lw_tbl := List.mem_of_getElem? (i := 881) (by decide +kernel)
theorem mf_L_142 : MFv RL 142 yX9_lose cX9_lose 2 (some .int) 1 := ⟨⟨lg_in mw_877 rfl, lg_in mw_457 rfl, by decide +kernel, Or.inl (lg_in mw_878 rfl)⟩, lg_in mw_879 rfl, lg_in mw_880 rfl⟩
theorem mw_881 : Cond.code yX8_lay cX8_lay 6 (some .int) ∈ lw_tbl := List.mem_of_getElem? (i := 712) (by decide +kernel)
theorem mw_882 : Cond.methodLink RL 143 yX8_lay ∈ lw_tbl := List.mem_of_getElem? (i := 709) (by decide +kernel)
theorem mw_883 : Cond.instanceMethod yX8_lay ∈ lw_tbl := List.mem_of_getElem? (i := 710) (by decide +kernel)
theorem mw_884 : Cond.selects RX8 yX8_lay yX8_lay ∈ lw_tbl := List.mem_of_getElem? (i := 711) (by decide +kernel)
theorem mf_L_143 : MFv RL 143 yX8_lay cX8_lay 6 (some .int) 4 := ⟨⟨lg_in mw_881 rfl, lg_in mw_167 rfl, by decide +kernel, Or.inl (lg_in mw_882 rfl)⟩, lg_in mw_883 rfl, lg_in mw_884 rfl⟩
theorem mw_885 : Cond.code yX9_lay cX9_lay 6 (some .int) ∈ lw_tbl := List.mem_of_getElem? (i := 886) (by decide +kernel)
theorem mw_886 : Cond.methodLink RL 146 yX9_lay ∈ lw_tbl := List.mem_of_getElem? (i := 883) (by decide +kernel)
theorem mw_887 : Cond.instanceMethod yX9_lay ∈ lw_tbl := List.mem_of_getElem? (i := 884) (by decide +kernel)
theorem mw_888 : Cond.selects RX9 yX9_lay yX9_lay ∈ lw_tbl := List.mem_of_getElem? (i := 885) (by decide +kernel)
theorem mf_L_146 : MFv RL 146 yX9_lay cX9_lay 6 (some .int) 4 := ⟨⟨lg_in mw_885 rfl, lg_in mw_457 rfl, by decide +kernel, Or.inl (lg_in mw_886 rfl)⟩, lg_in mw_887 rfl, lg_in mw_888 rfl⟩
theorem mw_889 : Cond.code yX8_get cX8_get 5 (some .int) ∈ lw_tbl := List.mem_of_getElem? (i := 724) (by decide +kernel)
theorem mw_890 : Cond.methodLink RL 147 yX8_get ∈ lw_tbl := List.mem_of_getElem? (i := 721) (by decide +kernel)
theorem mw_891 : Cond.instanceMethod yX8_get ∈ lw_tbl := List.mem_of_getElem? (i := 722) (by decide +kernel)
theorem mw_892 : Cond.selects RX8 yX8_get yX8_get ∈ lw_tbl := List.mem_of_getElem? (i := 723) (by decide +kernel)
theorem mf_L_147 : MFv RL 147 yX8_get cX8_get 5 (some .int) 3 := ⟨⟨lg_in mw_889 rfl, lg_in mw_167 rfl, by decide +kernel, Or.inl (lg_in mw_890 rfl)⟩, lg_in mw_891 rfl, lg_in mw_892 rfl⟩
theorem mw_893 : Cond.code yX9_get cX9_get 4 (some .int) ∈ lw_tbl := List.mem_of_getElem? (i := 897) (by decide +kernel)
theorem mw_894 : Cond.methodLink RL 150 yX9_get ∈ lw_tbl := List.mem_of_getElem? (i := 894) (by decide +kernel)
theorem mw_895 : Cond.instanceMethod yX9_get ∈ lw_tbl := List.mem_of_getElem? (i := 895) (by decide +kernel)
theorem mw_896 : Cond.selects RX9 yX9_get yX9_get ∈ lw_tbl := List.mem_of_getElem? (i := 896) (by decide +kernel)
theorem mf_L_150 : MFv RL 150 yX9_get cX9_get 4 (some .int) 3 := ⟨⟨lg_in mw_893 rfl, lg_in mw_457 rfl, by decide +kernel, Or.inl (lg_in mw_894 rfl)⟩, lg_in mw_895 rfl, lg_in mw_896 rfl⟩
theorem mw_897 : Cond.code yX8_copy cX8_copy 8 (some .int) ∈ lw_tbl := List.mem_of_getElem? (i := 729) (by decide +kernel)
theorem mw_898 : Cond.methodLink RL 151 yX8_copy ∈ lw_tbl := List.mem_of_getElem? (i := 726) (by decide +kernel)
theorem mw_899 : Cond.instanceMethod yX8_copy ∈ lw_tbl := List.mem_of_getElem? (i := 727) (by decide +kernel)
theorem mw_900 : Cond.selects RX8 yX8_copy yX8_copy ∈ lw_tbl := List.mem_of_getElem? (i := 728) (by decide +kernel)
theorem mf_L_151 : MFv RL 151 yX8_copy cX8_copy 8 (some .int) 5 := ⟨⟨lg_in mw_897 rfl, lg_in mw_167 rfl, by decide +kernel, Or.inl (lg_in mw_898 rfl)⟩, lg_in mw_899 rfl, lg_in mw_900 rfl⟩
theorem mw_901 : Cond.code yX9_copy cX9_copy 7 (some .int) ∈ lw_tbl := List.mem_of_getElem? (i := 902) (by decide +kernel)
theorem mw_902 : Cond.methodLink RL 155 yX9_copy ∈ lw_tbl := List.mem_of_getElem? (i := 899) (by decide +kernel)
theorem mw_903 : Cond.instanceMethod yX9_copy ∈ lw_tbl := List.mem_of_getElem? (i := 900) (by decide +kernel)
theorem mw_904 : Cond.selects RX9 yX9_copy yX9_copy ∈ lw_tbl := List.mem_of_getElem? (i := 901) (by decide +kernel)
theorem mf_L_155 : MFv RL 155 yX9_copy cX9_copy 7 (some .int) 5 := ⟨⟨lg_in mw_901 rfl, lg_in mw_457 rfl, by decide +kernel, Or.inl (lg_in mw_902 rfl)⟩, lg_in mw_903 rfl, lg_in mw_904 rfl⟩
theorem mw_905 : Cond.code yX8_write cX8_write 7 (some .int) ∈ lw_tbl := List.mem_of_getElem? (i := 740) (by decide +kernel)
theorem mw_906 : Cond.methodLink RL 156 yX8_write ∈ lw_tbl := List.mem_of_getElem? (i := 737) (by decide +kernel)
theorem mw_907 : Cond.instanceMethod yX8_write ∈ lw_tbl := List.mem_of_getElem? (i := 738) (by decide +kernel)
theorem mw_908 : Cond.selects RX8 yX8_write yX8_write ∈ lw_tbl := List.mem_of_getElem? (i := 739) (by decide +kernel)
theorem mf_L_156 : MFv RL 156 yX8_write cX8_write 7 (some .int) 2 := ⟨⟨lg_in mw_905 rfl, lg_in mw_167 rfl, by decide +kernel, Or.inl (lg_in mw_906 rfl)⟩, lg_in mw_907 rfl, lg_in mw_908 rfl⟩
theorem mw_909 : Cond.code yX9_write cX9_write 5 (some .int) ∈ lw_tbl := List.mem_of_getElem? (i := 1195) (by decide +kernel)
theorem mw_910 : Cond.methodLink RL 159 yX9_write ∈ lw_tbl := List.mem_of_getElem? (i := 1192) (by decide +kernel)
theorem mw_911 : Cond.instanceMethod yX9_write ∈ lw_tbl := List.mem_of_getElem? (i := 1193) (by decide +kernel)
theorem mw_912 : Cond.selects RX9 yX9_write yX9_write ∈ lw_tbl := List.mem_of_getElem? (i := 1194) (by decide +kernel)
theorem mf_L_159 : MFv RL 159 yX9_write cX9_write 5 (some .int) 2 := ⟨⟨lg_in mw_909 rfl, lg_in mw_457 rfl, by decide +kernel, Or.inl (lg_in mw_910 rfl)⟩, lg_in mw_911 rfl, lg_in mw_912 rfl⟩
theorem mw_913 : Cond.methodLink RL 160 yX8_count ∈ lw_tbl := List.mem_of_getElem? (i := 742) (by decide +kernel)
theorem mf_L_160 : MFv RL 160 yX8_count cX8_count 2 (some .int) 1 := ⟨⟨lg_in mw_355 rfl, lg_in mw_167 rfl, by decide +kernel, Or.inl (lg_in mw_913 rfl)⟩, lg_in mw_357 rfl, lg_in mw_358 rfl⟩
theorem mw_914 : Cond.methodLink RL 163 yX9_count ∈ lw_tbl := List.mem_of_getElem? (i := 1196) (by decide +kernel)
theorem mf_L_163 : MFv RL 163 yX9_count cX9_count 2 (some .int) 1 := ⟨⟨lg_in mw_663 rfl, lg_in mw_457 rfl, by decide +kernel, Or.inl (lg_in mw_914 rfl)⟩, lg_in mw_665 rfl, lg_in mw_666 rfl⟩
theorem mw_915 : Cond.code yX8_digest cX8_digest 4 (some .long) ∈ lw_tbl := List.mem_of_getElem? (i := 749) (by decide +kernel)
theorem mw_916 : Cond.methodLink RL 164 yX8_digest ∈ lw_tbl := List.mem_of_getElem? (i := 746) (by decide +kernel)
theorem mw_917 : Cond.instanceMethod yX8_digest ∈ lw_tbl := List.mem_of_getElem? (i := 747) (by decide +kernel)
theorem mw_918 : Cond.selects RX8 yX8_digest yX8_digest ∈ lw_tbl := List.mem_of_getElem? (i := 748) (by decide +kernel)
theorem mf_L_164 : MFv RL 164 yX8_digest cX8_digest 4 (some .long) 0 := ⟨⟨lg_in mw_915 rfl, lg_in mw_167 rfl, by decide +kernel, Or.inl (lg_in mw_916 rfl)⟩, lg_in mw_917 rfl, lg_in mw_918 rfl⟩
theorem mw_919 : Cond.code yX9_digest cX9_digest 4 (some .long) ∈ lw_tbl := List.mem_of_getElem? (i := 1203) (by decide +kernel)
theorem mw_920 : Cond.methodLink RL 168 yX9_digest ∈ lw_tbl := List.mem_of_getElem? (i := 1200) (by decide +kernel)
theorem mw_921 : Cond.instanceMethod yX9_digest ∈ lw_tbl := List.mem_of_getElem? (i := 1201) (by decide +kernel)
theorem mw_922 : Cond.selects RX9 yX9_digest yX9_digest ∈ lw_tbl := List.mem_of_getElem? (i := 1202) (by decide +kernel)
theorem mf_L_168 : MFv RL 168 yX9_digest cX9_digest 4 (some .long) 0 := ⟨⟨lg_in mw_919 rfl, lg_in mw_457 rfl, by decide +kernel, Or.inl (lg_in mw_920 rfl)⟩, lg_in mw_921 rfl, lg_in mw_922 rfl⟩
