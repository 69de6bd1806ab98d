theorem in_X6 : ∀ w ∈ u_ws RX6 TX6 5, w ∈ g_ws := by decide +kernel
theorem ft_X6 : g_FT RX6 TX6 5 tyX6 := ⟨tyX6_ok, nmX6⟩
theorem fl_X6_21 : g_FL RX6 21 7 4 RX6 TX6 5 := ⟨rfl, by decide, in_X6, g_tb (i := 113) (by decide +kernel) (by decide), rfl⟩
theorem in_X0 : ∀ w ∈ u_ws RX0 TX0 6, w ∈ g_ws := by decide +kernel
theorem ft_X0 : g_FT RX0 TX0 6 tyX0 := ⟨tyX0_ok, nmX0⟩
theorem fl_X0_9 : g_FL RX0 9 1 0 RX0 TX0 6 := ⟨rfl, by decide, in_X0, g_tb (i := 261) (by decide +kernel) (by decide), rfl⟩
theorem fl_X0_15 : g_FL RX0 15 1 1 RX0 TX0 6 := ⟨rfl, by decide, in_X0, g_tb (i := 263) (by decide +kernel) (by decide), rfl⟩
theorem fl_X0_18 : g_FL RX0 18 1 2 RX0 TX0 6 := ⟨rfl, by decide, in_X0, g_tb (i := 265) (by decide +kernel) (by decide), rfl⟩
theorem fl_X0_21 : g_FL RX0 21 1 3 RX0 TX0 6 := ⟨rfl, by decide, in_X0, g_tb (i := 268) (by decide +kernel) (by decide), rfl⟩
theorem fl_X0_47 : g_FL RX0 47 7 2 RX6 TX6 5 := ⟨rfl, by decide, in_X6, g_tb (i := 108) (by decide +kernel) (by decide), rfl⟩
theorem ini_RX6 : Cond.initialized RX6 ∈ g_ws := g_tb (i := 9) (by decide +kernel) (by decide)
theorem cd_X6_rowOf : Cond.code yX6_rowOf cX6_rowOf 4 (some .int) ∈ g_ws := g_tb (i := 508) (by decide +kernel) (by decide)
theorem sl_X6_rowOf : Cond.selects yX6_rowOf.cls yX6_rowOf yX6_rowOf ∈ g_ws := g_tb (i := 507) (by decide +kernel) (by decide)
theorem mw_X6_rowOf : Cond.instanceMethod yX6_rowOf ∈ g_ws := g_tb (i := 506) (by decide +kernel) (by decide)
theorem mk_X0_76 : g_MV RX0 76 yX6_rowOf cX6_rowOf 4 (some .int) 2 := ⟨⟨g_tb (i := 505) (by decide +kernel) (by decide), ini_RX6, cd_X6_rowOf, ⟨by decide, by decide⟩, by decide +kernel⟩, mw_X6_rowOf, sl_X6_rowOf⟩
theorem ini_RX0 : Cond.initialized RX0 ∈ g_ws := g_tb (i := 13) (by decide +kernel) (by decide)
theorem cd_X0_setTrim : Cond.code yX0_setTrim cX0_setTrim 6 none ∈ g_ws := g_tb (i := 512) (by decide +kernel) (by decide)
theorem sl_X0_setTrim : Cond.selects yX0_setTrim.cls yX0_setTrim yX0_setTrim ∈ g_ws := g_sel (i := 2) (q := (yX0_setTrim, 6)) (by decide +kernel) (by decide)
theorem mw_X0_setTrim : Cond.instanceMethod yX0_setTrim ∈ g_ws := g_tb (i := 511) (by decide +kernel) (by decide)
theorem mk_X0_48 : g_MV RX0 48 yX0_setTrim cX0_setTrim 6 none 5 := ⟨⟨g_tb (i := 509) (by decide +kernel) (by decide), ini_RX0, cd_X0_setTrim, ⟨by decide, by decide⟩, by decide +kernel⟩, mw_X0_setTrim, sl_X0_setTrim⟩
theorem mm_X0_80 : g_Mth RX0 80 Lib.Math.min.name Lib.Math.min.code := ⟨g_tb (i := 513) (by decide +kernel) (by decide), g_tb (i := 465) (by decide +kernel) (by decide), g_tb (i := 19) (by decide +kernel) (by decide), g_tb (i := 466) (by decide +kernel) (by decide)⟩
theorem in_X5 : ∀ w ∈ u_ws RX5 TX5 12, w ∈ g_ws := by decide +kernel
theorem ft_X5 : g_FT RX5 TX5 12 tyX5 := ⟨tyX5_ok, nmX5⟩
theorem fl_X5_25 : g_FL RX5 25 6 7 RX5 TX5 12 := ⟨rfl, by decide, in_X5, g_tb (i := 149) (by decide +kernel) (by decide), rfl⟩
theorem cd_X0_isBlank : Cond.code yX0_isBlank cX0_isBlank 2 (some .boolean) ∈ g_ws := g_tb (i := 525) (by decide +kernel) (by decide)
theorem sl_X0_isBlank : Cond.selects yX0_isBlank.cls yX0_isBlank yX0_isBlank ∈ g_ws := g_tb (i := 524) (by decide +kernel) (by decide)
theorem mw_X0_isBlank : Cond.instanceMethod yX0_isBlank ∈ g_ws := g_tb (i := 523) (by decide +kernel) (by decide)
theorem mk_X0_60 : g_MV RX0 60 yX0_isBlank cX0_isBlank 2 (some .boolean) 1 := ⟨⟨g_tb (i := 522) (by decide +kernel) (by decide), ini_RX0, cd_X0_isBlank, ⟨by decide, by decide⟩, by decide +kernel⟩, mw_X0_isBlank, sl_X0_isBlank⟩
theorem fl_X0_24 : g_FL RX0 24 1 4 RX0 TX0 6 := ⟨rfl, by decide, in_X0, g_tb (i := 271) (by decide +kernel) (by decide), rfl⟩
theorem cd_X6_colorAt : Cond.code yX6_colorAt cX6_colorAt 5 (some .int) ∈ g_ws := g_tb (i := 541) (by decide +kernel) (by decide)
theorem sl_X6_colorAt : Cond.selects yX6_colorAt.cls yX6_colorAt yX6_colorAt ∈ g_ws := g_tb (i := 540) (by decide +kernel) (by decide)
theorem mw_X6_colorAt : Cond.instanceMethod yX6_colorAt ∈ g_ws := g_tb (i := 539) (by decide +kernel) (by decide)
theorem mk_X0_72 : g_MV RX0 72 yX6_colorAt cX6_colorAt 5 (some .int) 3 := ⟨⟨g_tb (i := 538) (by decide +kernel) (by decide), ini_RX6, cd_X6_colorAt, ⟨by decide, by decide⟩, by decide +kernel⟩, mw_X6_colorAt, sl_X6_colorAt⟩
theorem cd_X0_colorIn : Cond.code yX0_colorIn cX0_colorIn 11 (some .int) ∈ g_ws := g_tb (i := 537) (by decide +kernel) (by decide)
theorem sl_X0_colorIn : Cond.selects yX0_colorIn.cls yX0_colorIn yX0_colorIn ∈ g_ws := g_tb (i := 536) (by decide +kernel) (by decide)
theorem mw_X0_colorIn : Cond.instanceMethod yX0_colorIn ∈ g_ws := g_tb (i := 535) (by decide +kernel) (by decide)
theorem mk_X0_88 : g_MV RX0 88 yX0_colorIn cX0_colorIn 11 (some .int) 5 := ⟨⟨g_tb (i := 534) (by decide +kernel) (by decide), ini_RX0, cd_X0_colorIn, ⟨by decide, by decide⟩, by decide +kernel⟩, mw_X0_colorIn, sl_X0_colorIn⟩
theorem fl_X0_27 : g_FL RX0 27 1 5 RX0 TX0 6 := ⟨rfl, by decide, in_X0, g_tb (i := 273) (by decide +kernel) (by decide), rfl⟩
theorem cd_X0_isOriginal : Cond.code yX0_isOriginal cX0_isOriginal 2 (some .boolean) ∈ g_ws := g_tb (i := 529) (by decide +kernel) (by decide)
theorem sl_X0_isOriginal : Cond.selects yX0_isOriginal.cls yX0_isOriginal yX0_isOriginal ∈ g_ws := g_tb (i := 528) (by decide +kernel) (by decide)
theorem mw_X0_isOriginal : Cond.instanceMethod yX0_isOriginal ∈ g_ws := g_tb (i := 527) (by decide +kernel) (by decide)
theorem mk_X0_85 : g_MV RX0 85 yX0_isOriginal cX0_isOriginal 2 (some .boolean) 1 := ⟨⟨g_tb (i := 526) (by decide +kernel) (by decide), ini_RX0, cd_X0_isOriginal, ⟨by decide, by decide⟩, by decide +kernel⟩, mw_X0_isOriginal, sl_X0_isOriginal⟩
theorem cd_X0_matches : Cond.code yX0_matches cX0_matches 10 (some .boolean) ∈ g_ws := g_tb (i := 533) (by decide +kernel) (by decide)
theorem sl_X0_matches : Cond.selects yX0_matches.cls yX0_matches yX0_matches ∈ g_ws := g_sel (i := 4) (q := (yX0_matches, 6)) (by decide +kernel) (by decide)
theorem mw_X0_matches : Cond.instanceMethod yX0_matches ∈ g_ws := g_tb (i := 532) (by decide +kernel) (by decide)
theorem mk_X0_68 : g_MV RX0 68 yX0_matches cX0_matches 10 (some .boolean) 4 := ⟨⟨g_tb (i := 530) (by decide +kernel) (by decide), ini_RX0, cd_X0_matches, ⟨by decide, by decide⟩, by decide +kernel⟩, mw_X0_matches, sl_X0_matches⟩
theorem fl_X0_30 : g_FL RX0 30 7 0 RX6 TX6 5 := ⟨rfl, by decide, in_X6, g_tb (i := 100) (by decide +kernel) (by decide), rfl⟩
theorem fl_X0_36 : g_FL RX0 36 6 6 RX5 TX5 12 := ⟨rfl, by decide, in_X5, g_tb (i := 147) (by decide +kernel) (by decide), rfl⟩
theorem cd_X0_trim : Cond.code yX0_trim cX0_trim 9 none ∈ g_ws := g_tb (i := 504) (by decide +kernel) (by decide)
theorem sl_X0_trim : Cond.selects yX0_trim.cls yX0_trim yX0_trim ∈ g_ws := g_sel (i := 1) (q := (yX0_trim, 6)) (by decide +kernel) (by decide)
theorem mw_X0_trim : Cond.instanceMethod yX0_trim ∈ g_ws := g_tb (i := 503) (by decide +kernel) (by decide)
theorem mk_X0_42 : g_MV RX0 42 yX0_trim cX0_trim 9 none 2 := ⟨⟨g_tb (i := 501) (by decide +kernel) (by decide), ini_RX0, cd_X0_trim, ⟨by decide, by decide⟩, by decide +kernel⟩, mw_X0_trim, sl_X0_trim⟩
theorem fl_X0_46 : g_FL RX0 46 7 1 RX6 TX6 5 := ⟨rfl, by decide, in_X6, g_tb (i := 105) (by decide +kernel) (by decide), rfl⟩
theorem ini_RX5 : Cond.initialized RX5 ∈ g_ws := g_tb (i := 10) (by decide +kernel) (by decide)
theorem cd_X5_matchedOrientations : Cond.code yX5_matchedOrientations cX5_matchedOrientations 1 (some .int) ∈ g_ws := g_tb (i := 517) (by decide +kernel) (by decide)
theorem sl_X5_matchedOrientations : Cond.selects yX5_matchedOrientations.cls yX5_matchedOrientations yX5_matchedOrientations ∈ g_ws := g_tb (i := 516) (by decide +kernel) (by decide)
theorem mw_X5_matchedOrientations : Cond.instanceMethod yX5_matchedOrientations ∈ g_ws := g_tb (i := 515) (by decide +kernel) (by decide)
theorem mk_X0_52 : g_MV RX0 52 yX5_matchedOrientations cX5_matchedOrientations 1 (some .int) 0 := ⟨⟨g_tb (i := 514) (by decide +kernel) (by decide), ini_RX5, cd_X5_matchedOrientations, ⟨by decide, by decide⟩, by decide +kernel⟩, mw_X5_matchedOrientations, sl_X5_matchedOrientations⟩
theorem cd_X0_findOriginal : Cond.code yX0_findOriginal cX0_findOriginal 6 none ∈ g_ws := g_tb (i := 521) (by decide +kernel) (by decide)
theorem sl_X0_findOriginal : Cond.selects yX0_findOriginal.cls yX0_findOriginal yX0_findOriginal ∈ g_ws := g_sel (i := 3) (q := (yX0_findOriginal, 6)) (by decide +kernel) (by decide)
theorem mw_X0_findOriginal : Cond.instanceMethod yX0_findOriginal ∈ g_ws := g_tb (i := 520) (by decide +kernel) (by decide)
theorem mk_X0_56 : g_MV RX0 56 yX0_findOriginal cX0_findOriginal 6 none 3 := ⟨⟨g_tb (i := 518) (by decide +kernel) (by decide), ini_RX0, cd_X0_findOriginal, ⟨by decide, by decide⟩, by decide +kernel⟩, mw_X0_findOriginal, sl_X0_findOriginal⟩
theorem cd_X0_afterTurn : Cond.code yX0_afterTurn cX0_afterTurn 1 (some .int) ∈ g_ws := g_tb (i := 884) (by decide +kernel) (by decide)
theorem mw_X0_afterTurn : Cond.static yX0_afterTurn ∈ g_ws := g_tb (i := 883) (by decide +kernel) (by decide)
theorem mk_X0_64 : g_MS RX0 64 yX0_afterTurn cX0_afterTurn 1 (some .int) 1 := ⟨⟨g_tb (i := 882) (by decide +kernel) (by decide), ini_RX0, cd_X0_afterTurn, ⟨by decide, by decide⟩, by decide +kernel⟩, mw_X0_afterTurn⟩
theorem in_X1 : ∀ w ∈ u_ws RX1 TX1 7, w ∈ g_ws := by decide +kernel
theorem ft_X1 : g_FT RX1 TX1 7 tyX1 := ⟨tyX1_ok, nmX1⟩
theorem fl_X1_7 : g_FL RX1 7 2 0 RX1 TX1 7 := ⟨rfl, by decide, in_X1, g_tb (i := 325) (by decide +kernel) (by decide), rfl⟩
theorem fl_X1_13 : g_FL RX1 13 2 1 RX1 TX1 7 := ⟨rfl, by decide, in_X1, g_tb (i := 327) (by decide +kernel) (by decide), rfl⟩
theorem fl_X1_17 : g_FL RX1 17 2 5 RX1 TX1 7 := ⟨rfl, by decide, in_X1, g_tb (i := 335) (by decide +kernel) (by decide), rfl⟩
theorem fl_X1_20 : g_FL RX1 20 2 6 RX1 TX1 7 := ⟨rfl, by decide, in_X1, g_tb (i := 336) (by decide +kernel) (by decide), rfl⟩
theorem ini_RX7 : Cond.initialized RX7 ∈ g_ws := g_tb (i := 15) (by decide +kernel) (by decide)
theorem cd_X7_leftIn : Cond.code yX7_leftIn cX7_leftIn 1 (some .int) ∈ g_ws := g_tb (i := 749) (by decide +kernel) (by decide)
theorem mw_X7_leftIn : Cond.static yX7_leftIn ∈ g_ws := g_tb (i := 748) (by decide +kernel) (by decide)
theorem mk_X1_23 : g_MS RX1 23 yX7_leftIn cX7_leftIn 1 (some .int) 1 := ⟨⟨g_tb (i := 747) (by decide +kernel) (by decide), ini_RX7, cd_X7_leftIn, ⟨by decide, by decide⟩, by decide +kernel⟩, mw_X7_leftIn⟩
theorem fl_X1_29 : g_FL RX1 29 2 2 RX1 TX1 7 := ⟨rfl, by decide, in_X1, g_tb (i := 329) (by decide +kernel) (by decide), rfl⟩
theorem cd_X7_topIn : Cond.code yX7_topIn cX7_topIn 1 (some .int) ∈ g_ws := g_tb (i := 752) (by decide +kernel) (by decide)
theorem mw_X7_topIn : Cond.static yX7_topIn ∈ g_ws := g_tb (i := 751) (by decide +kernel) (by decide)
theorem mk_X1_32 : g_MS RX1 32 yX7_topIn cX7_topIn 1 (some .int) 1 := ⟨⟨g_tb (i := 750) (by decide +kernel) (by decide), ini_RX7, cd_X7_topIn, ⟨by decide, by decide⟩, by decide +kernel⟩, mw_X7_topIn⟩
theorem fl_X1_35 : g_FL RX1 35 2 3 RX1 TX1 7 := ⟨rfl, by decide, in_X1, g_tb (i := 331) (by decide +kernel) (by decide), rfl⟩
theorem fl_X1_38 : g_FL RX1 38 2 4 RX1 TX1 7 := ⟨rfl, by decide, in_X1, g_tb (i := 333) (by decide +kernel) (by decide), rfl⟩
theorem fl_X6_24 : g_FL RX6 24 7 0 RX6 TX6 5 := ⟨rfl, by decide, in_X6, g_tb (i := 101) (by decide +kernel) (by decide), rfl⟩
theorem fl_X6_9 : g_FL RX6 9 7 1 RX6 TX6 5 := ⟨rfl, by decide, in_X6, g_tb (i := 104) (by decide +kernel) (by decide), rfl⟩
theorem ac_nat : Cond.native arraycopyName ∈ g_ws := g_tb (i := 454) (by decide +kernel) (by decide)
theorem ac_st : Cond.static arraycopyName ∈ g_ws := g_tb (i := 453) (by decide +kernel) (by decide)
theorem ac_ini : Cond.initialized "java/lang/System" ∈ g_ws := g_tb (i := 18) (by decide +kernel) (by decide)
theorem ac_X6_42 : Cond.methodLink RX6 42 arraycopyName ∈ g_ws := g_tb (i := 452) (by decide +kernel) (by decide)
theorem fl_X6_15 : g_FL RX6 15 7 2 RX6 TX6 5 := ⟨rfl, by decide, in_X6, g_tb (i := 107) (by decide +kernel) (by decide), rfl⟩
theorem fl_X6_18 : g_FL RX6 18 7 3 RX6 TX6 5 := ⟨rfl, by decide, in_X6, g_tb (i := 110) (by decide +kernel) (by decide), rfl⟩
theorem fl_X5_9 : g_FL RX5 9 6 0 RX5 TX5 12 := ⟨rfl, by decide, in_X5, g_tb (i := 131) (by decide +kernel) (by decide), rfl⟩
theorem fl_X5_15 : g_FL RX5 15 6 1 RX5 TX5 12 := ⟨rfl, by decide, in_X5, g_tb (i := 133) (by decide +kernel) (by decide), rfl⟩
theorem fl_X5_18 : g_FL RX5 18 6 2 RX5 TX5 12 := ⟨rfl, by decide, in_X5, g_tb (i := 135) (by decide +kernel) (by decide), rfl⟩
theorem fl_X5_37 : g_FL RX5 37 6 3 RX5 TX5 12 := ⟨rfl, by decide, in_X5, g_tb (i := 138) (by decide +kernel) (by decide), rfl⟩
theorem fl_X5_34 : g_FL RX5 34 6 4 RX5 TX5 12 := ⟨rfl, by decide, in_X5, g_tb (i := 140) (by decide +kernel) (by decide), rfl⟩
theorem fl_X5_53 : g_FL RX5 53 6 5 RX5 TX5 12 := ⟨rfl, by decide, in_X5, g_tb (i := 143) (by decide +kernel) (by decide), rfl⟩
theorem fl_X5_21 : g_FL RX5 21 6 6 RX5 TX5 12 := ⟨rfl, by decide, in_X5, g_tb (i := 146) (by decide +kernel) (by decide), rfl⟩
theorem fl_X5_56 : g_FL RX5 56 6 8 RX5 TX5 12 := ⟨rfl, by decide, in_X5, g_tb (i := 151) (by decide +kernel) (by decide), rfl⟩
theorem fl_X5_59 : g_FL RX5 59 6 9 RX5 TX5 12 := ⟨rfl, by decide, in_X5, g_tb (i := 154) (by decide +kernel) (by decide), rfl⟩
theorem fl_X5_28 : g_FL RX5 28 6 10 RX5 TX5 12 := ⟨rfl, by decide, in_X5, g_tb (i := 157) (by decide +kernel) (by decide), rfl⟩
theorem fl_X5_31 : g_FL RX5 31 6 11 RX5 TX5 12 := ⟨rfl, by decide, in_X5, g_tb (i := 160) (by decide +kernel) (by decide), rfl⟩
theorem in_X4 : ∀ w ∈ u_ws RX4 TX4 6, w ∈ g_ws := by decide +kernel
theorem ft_X4 : g_FT RX4 TX4 6 tyX4 := ⟨tyX4_ok, nmX4⟩
theorem fl_X4_34 : g_FL RX4 34 5 0 RX4 TX4 6 := ⟨rfl, by decide, in_X4, g_tb (i := 197) (by decide +kernel) (by decide), rfl⟩
theorem fl_X4_9 : g_FL RX4 9 5 1 RX4 TX4 6 := ⟨rfl, by decide, in_X4, g_tb (i := 200) (by decide +kernel) (by decide), rfl⟩
theorem ac_X4_38 : Cond.methodLink RX4 38 arraycopyName ∈ g_ws := g_tb (i := 463) (by decide +kernel) (by decide)
theorem fl_X4_15 : g_FL RX4 15 5 2 RX4 TX4 6 := ⟨rfl, by decide, in_X4, g_tb (i := 202) (by decide +kernel) (by decide), rfl⟩
theorem fl_X4_18 : g_FL RX4 18 5 3 RX4 TX4 6 := ⟨rfl, by decide, in_X4, g_tb (i := 205) (by decide +kernel) (by decide), rfl⟩
theorem fl_X4_21 : g_FL RX4 21 5 4 RX4 TX4 6 := ⟨rfl, by decide, in_X4, g_tb (i := 207) (by decide +kernel) (by decide), rfl⟩
theorem fl_X4_24 : g_FL RX4 24 5 5 RX4 TX4 6 := ⟨rfl, by decide, in_X4, g_tb (i := 209) (by decide +kernel) (by decide), rfl⟩
theorem in_X8 : ∀ w ∈ u_ws RX8 TX8 3, w ∈ g_ws := by decide +kernel
theorem ft_X8 : g_FT RX8 TX8 3 tyX8 := ⟨tyX8_ok, nmX8⟩
theorem fl_X8_10 : g_FL RX8 10 9 0 RX8 TX8 3 := ⟨rfl, by decide, in_X8, g_tb (i := 226) (by decide +kernel) (by decide), rfl⟩
theorem cd_X6_copyFrom : Cond.code yX6_copyFrom cX6_copyFrom 2 none ∈ g_ws := g_tb (i := 451) (by decide +kernel) (by decide)
theorem sl_X6_copyFrom : Cond.selects yX6_copyFrom.cls yX6_copyFrom yX6_copyFrom ∈ g_ws := g_tb (i := 450) (by decide +kernel) (by decide)
theorem mw_X6_copyFrom : Cond.instanceMethod yX6_copyFrom ∈ g_ws := g_tb (i := 449) (by decide +kernel) (by decide)
theorem mk_X8_30 : g_MV RX8 30 yX6_copyFrom cX6_copyFrom 2 none 1 := ⟨⟨g_tb (i := 448) (by decide +kernel) (by decide), ini_RX6, cd_X6_copyFrom, ⟨by decide, by decide⟩, by decide +kernel⟩, mw_X6_copyFrom, sl_X6_copyFrom⟩
theorem fl_X8_19 : g_FL RX8 19 9 1 RX8 TX8 3 := ⟨rfl, by decide, in_X8, g_tb (i := 229) (by decide +kernel) (by decide), rfl⟩
theorem cd_X5_copyFrom : Cond.code yX5_copyFrom cX5_copyFrom 2 none ∈ g_ws := g_tb (i := 458) (by decide +kernel) (by decide)
theorem sl_X5_copyFrom : Cond.selects yX5_copyFrom.cls yX5_copyFrom yX5_copyFrom ∈ g_ws := g_tb (i := 457) (by decide +kernel) (by decide)
theorem mw_X5_copyFrom : Cond.instanceMethod yX5_copyFrom ∈ g_ws := g_tb (i := 456) (by decide +kernel) (by decide)
theorem mk_X8_34 : g_MV RX8 34 yX5_copyFrom cX5_copyFrom 2 none 1 := ⟨⟨g_tb (i := 455) (by decide +kernel) (by decide), ini_RX5, cd_X5_copyFrom, ⟨by decide, by decide⟩, by decide +kernel⟩, mw_X5_copyFrom, sl_X5_copyFrom⟩
theorem fl_X8_26 : g_FL RX8 26 9 2 RX8 TX8 3 := ⟨rfl, by decide, in_X8, g_tb (i := 232) (by decide +kernel) (by decide), rfl⟩
theorem ini_RX4 : Cond.initialized RX4 ∈ g_ws := g_tb (i := 11) (by decide +kernel) (by decide)
theorem cd_X4_copyFrom : Cond.code yX4_copyFrom cX4_copyFrom 2 none ∈ g_ws := g_tb (i := 462) (by decide +kernel) (by decide)
theorem sl_X4_copyFrom : Cond.selects yX4_copyFrom.cls yX4_copyFrom yX4_copyFrom ∈ g_ws := g_tb (i := 461) (by decide +kernel) (by decide)
theorem mw_X4_copyFrom : Cond.instanceMethod yX4_copyFrom ∈ g_ws := g_tb (i := 460) (by decide +kernel) (by decide)
theorem mk_X8_37 : g_MV RX8 37 yX4_copyFrom cX4_copyFrom 2 none 1 := ⟨⟨g_tb (i := 459) (by decide +kernel) (by decide), ini_RX4, cd_X4_copyFrom, ⟨by decide, by decide⟩, by decide +kernel⟩, mw_X4_copyFrom, sl_X4_copyFrom⟩
theorem in_X2 : ∀ w ∈ u_ws RX2 TX2 3, w ∈ g_ws := by decide +kernel
theorem ft_X2 : g_FT RX2 TX2 3 tyX2 := ⟨tyX2_ok, nmX2⟩
theorem fl_X2_18 : g_FL RX2 18 3 1 RX2 TX2 3 := ⟨rfl, by decide, in_X2, g_tb (i := 243) (by decide +kernel) (by decide), rfl⟩
theorem fl_X2_11 : g_FL RX2 11 3 0 RX2 TX2 3 := ⟨rfl, by decide, in_X2, g_tb (i := 242) (by decide +kernel) (by decide), rfl⟩
theorem ini_RX8 : Cond.initialized RX8 ∈ g_ws := g_tb (i := 8) (by decide +kernel) (by decide)
theorem cd_X8_copyFrom : Cond.code yX8_copyFrom cX8_copyFrom 2 none ∈ g_ws := g_tb (i := 447) (by decide +kernel) (by decide)
theorem sl_X8_copyFrom : Cond.selects yX8_copyFrom.cls yX8_copyFrom yX8_copyFrom ∈ g_ws := g_tb (i := 446) (by decide +kernel) (by decide)
theorem mw_X8_copyFrom : Cond.instanceMethod yX8_copyFrom ∈ g_ws := g_tb (i := 445) (by decide +kernel) (by decide)
theorem mk_X2_22 : g_MV RX2 22 yX8_copyFrom cX8_copyFrom 2 none 1 := ⟨⟨g_tb (i := 444) (by decide +kernel) (by decide), ini_RX8, cd_X8_copyFrom, ⟨by decide, by decide⟩, by decide +kernel⟩, mw_X8_copyFrom, sl_X8_copyFrom⟩
theorem fl_X2_26 : g_FL RX2 26 3 2 RX2 TX2 3 := ⟨rfl, by decide, in_X2, g_tb (i := 244) (by decide +kernel) (by decide), rfl⟩
theorem mm_X2_29 : g_Mth RX2 29 Lib.Math.min.name Lib.Math.min.code := ⟨g_tb (i := 464) (by decide +kernel) (by decide), g_tb (i := 465) (by decide +kernel) (by decide), g_tb (i := 19) (by decide +kernel) (by decide), g_tb (i := 466) (by decide +kernel) (by decide)⟩
theorem ini_RJ7 : Cond.initialized RJ7 ∈ g_ws := g_tb (i := 12) (by decide +kernel) (by decide)
theorem cd_J7_fill_53178 : Cond.code yJ7_fill_53178 cJ7_fill_53178 4 none ∈ g_ws := g_tb (i := 196) (by decide +kernel) (by decide)
theorem mw_J7_fill_53178 : Cond.static yJ7_fill_53178 ∈ g_ws := g_tb (i := 195) (by decide +kernel) (by decide)
theorem mk_X4_28 : g_MS RX4 28 yJ7_fill_53178 cJ7_fill_53178 4 none 2 := ⟨⟨g_tb (i := 194) (by decide +kernel) (by decide), ini_RJ7, cd_J7_fill_53178, ⟨by decide, by decide⟩, by decide +kernel⟩, mw_J7_fill_53178⟩
theorem in_X3 : ∀ w ∈ u_ws RX3 TX3 5, w ∈ g_ws := by decide +kernel
theorem ft_X3 : g_FT RX3 TX3 5 tyX3 := ⟨tyX3_ok, nmX3⟩
theorem fl_X3_33 : g_FL RX3 33 4 1 RX3 TX3 5 := ⟨rfl, by decide, in_X3, g_tb (i := 353) (by decide +kernel) (by decide), rfl⟩
theorem fl_X3_191 : g_FL RX3 191 1 2 RX0 TX0 6 := ⟨rfl, by decide, in_X0, g_tb (i := 266) (by decide +kernel) (by decide), rfl⟩
theorem fl_X3_194 : g_FL RX3 194 1 3 RX0 TX0 6 := ⟨rfl, by decide, in_X0, g_tb (i := 269) (by decide +kernel) (by decide), rfl⟩
theorem fl_X3_29 : g_FL RX3 29 4 0 RX3 TX3 5 := ⟨rfl, by decide, in_X3, g_tb (i := 352) (by decide +kernel) (by decide), rfl⟩
theorem fl_X3_71 : g_FL RX3 71 9 1 RX8 TX8 3 := ⟨rfl, by decide, in_X8, g_tb (i := 230) (by decide +kernel) (by decide), rfl⟩
theorem fl_X3_203 : g_FL RX3 203 6 10 RX5 TX5 12 := ⟨rfl, by decide, in_X5, g_tb (i := 158) (by decide +kernel) (by decide), rfl⟩
theorem mm_X3_101 : g_Mth RX3 101 Lib.Math.max.name Lib.Math.max.code := ⟨g_tb (i := 691) (by decide +kernel) (by decide), g_tb (i := 560) (by decide +kernel) (by decide), g_tb (i := 19) (by decide +kernel) (by decide), g_tb (i := 561) (by decide +kernel) (by decide)⟩
theorem mm_X3_182 : g_Mth RX3 182 Lib.Math.min.name Lib.Math.min.code := ⟨g_tb (i := 692) (by decide +kernel) (by decide), g_tb (i := 465) (by decide +kernel) (by decide), g_tb (i := 19) (by decide +kernel) (by decide), g_tb (i := 466) (by decide +kernel) (by decide)⟩
theorem fl_X3_92 : g_FL RX3 92 9 0 RX8 TX8 3 := ⟨rfl, by decide, in_X8, g_tb (i := 227) (by decide +kernel) (by decide), rfl⟩
theorem fl_X3_142 : g_FL RX3 142 7 0 RX6 TX6 5 := ⟨rfl, by decide, in_X6, g_tb (i := 103) (by decide +kernel) (by decide), rfl⟩
theorem mk_X3_197 : g_MV RX3 197 yX0_isOriginal cX0_isOriginal 2 (some .boolean) 1 := ⟨⟨g_tb (i := 686) (by decide +kernel) (by decide), ini_RX0, cd_X0_isOriginal, ⟨by decide, by decide⟩, by decide +kernel⟩, mw_X0_isOriginal, sl_X0_isOriginal⟩
theorem fl_X3_25 : g_FL RX3 25 4 4 RX3 TX3 5 := ⟨rfl, by decide, in_X3, g_tb (i := 357) (by decide +kernel) (by decide), rfl⟩
theorem ini_RX3 : Cond.initialized RX3 ∈ g_ws := g_tb (i := 14) (by decide +kernel) (by decide)
theorem cd_X3_rankOf : Cond.code yX3_rankOf cX3_rankOf 4 (some .int) ∈ g_ws := g_tb (i := 690) (by decide +kernel) (by decide)
theorem sl_X3_rankOf : Cond.selects yX3_rankOf.cls yX3_rankOf yX3_rankOf ∈ g_ws := g_sel (i := 9) (q := (yX3_rankOf, 5)) (by decide +kernel) (by decide)
theorem mw_X3_rankOf : Cond.instanceMethod yX3_rankOf ∈ g_ws := g_tb (i := 689) (by decide +kernel) (by decide)
theorem mk_X3_200 : g_MV RX3 200 yX3_rankOf cX3_rankOf 4 (some .int) 1 := ⟨⟨g_tb (i := 687) (by decide +kernel) (by decide), ini_RX3, cd_X3_rankOf, ⟨by decide, by decide⟩, by decide +kernel⟩, mw_X3_rankOf, sl_X3_rankOf⟩
theorem fl_X3_206 : g_FL RX3 206 6 9 RX5 TX5 12 := ⟨rfl, by decide, in_X5, g_tb (i := 155) (by decide +kernel) (by decide), rfl⟩
theorem fl_X3_37 : g_FL RX3 37 9 2 RX8 TX8 3 := ⟨rfl, by decide, in_X8, g_tb (i := 233) (by decide +kernel) (by decide), rfl⟩
theorem fl_X3_89 : g_FL RX3 89 5 1 RX4 TX4 6 := ⟨rfl, by decide, in_X4, g_tb (i := 201) (by decide +kernel) (by decide), rfl⟩
theorem fl_X3_96 : g_FL RX3 96 7 3 RX6 TX6 5 := ⟨rfl, by decide, in_X6, g_tb (i := 111) (by decide +kernel) (by decide), rfl⟩
theorem cd_X4_isEmptyPage : Cond.code yX4_isEmptyPage cX4_isEmptyPage 3 (some .boolean) ∈ g_ws := g_tb (i := 704) (by decide +kernel) (by decide)
theorem sl_X4_isEmptyPage : Cond.selects yX4_isEmptyPage.cls yX4_isEmptyPage yX4_isEmptyPage ∈ g_ws := g_tb (i := 703) (by decide +kernel) (by decide)
theorem mw_X4_isEmptyPage : Cond.instanceMethod yX4_isEmptyPage ∈ g_ws := g_tb (i := 702) (by decide +kernel) (by decide)
theorem mk_X3_86 : g_MV RX3 86 yX4_isEmptyPage cX4_isEmptyPage 3 (some .boolean) 1 := ⟨⟨g_tb (i := 701) (by decide +kernel) (by decide), ini_RX4, cd_X4_isEmptyPage, ⟨by decide, by decide⟩, by decide +kernel⟩, mw_X4_isEmptyPage, sl_X4_isEmptyPage⟩
theorem in_X7 : ∀ w ∈ u_ws RX7 TX7 5, w ∈ g_ws := by decide +kernel
theorem ft_X7 : g_FT RX7 TX7 5 tyX7 := ⟨tyX7_ok, nmX7⟩
theorem fl_X7_15 : g_FL RX7 15 8 3 RX7 TX7 5 := ⟨rfl, by decide, in_X7, g_tb (i := 303) (by decide +kernel) (by decide), rfl⟩
theorem cd_X5_boxGrowth : Cond.code yX5_boxGrowth cX5_boxGrowth 1 (some .int) ∈ g_ws := g_tb (i := 732) (by decide +kernel) (by decide)
theorem sl_X5_boxGrowth : Cond.selects yX5_boxGrowth.cls yX5_boxGrowth yX5_boxGrowth ∈ g_ws := g_tb (i := 731) (by decide +kernel) (by decide)
theorem mw_X5_boxGrowth : Cond.instanceMethod yX5_boxGrowth ∈ g_ws := g_tb (i := 730) (by decide +kernel) (by decide)
theorem mk_X3_256 : g_MV RX3 256 yX5_boxGrowth cX5_boxGrowth 1 (some .int) 0 := ⟨⟨g_tb (i := 729) (by decide +kernel) (by decide), ini_RX5, cd_X5_boxGrowth, ⟨by decide, by decide⟩, by decide +kernel⟩, mw_X5_boxGrowth, sl_X5_boxGrowth⟩
theorem cd_X3_boxWidth : Cond.code yX3_boxWidth cX3_boxWidth 3 (some .int) ∈ g_ws := g_tb (i := 728) (by decide +kernel) (by decide)
theorem sl_X3_boxWidth : Cond.selects yX3_boxWidth.cls yX3_boxWidth yX3_boxWidth ∈ g_ws := g_sel (i := 14) (q := (yX3_boxWidth, 5)) (by decide +kernel) (by decide)
theorem mw_X3_boxWidth : Cond.instanceMethod yX3_boxWidth ∈ g_ws := g_tb (i := 727) (by decide +kernel) (by decide)
theorem mk_X3_145 : g_MV RX3 145 yX3_boxWidth cX3_boxWidth 3 (some .int) 2 := ⟨⟨g_tb (i := 725) (by decide +kernel) (by decide), ini_RX3, cd_X3_boxWidth, ⟨by decide, by decide⟩, by decide +kernel⟩, mw_X3_boxWidth, sl_X3_boxWidth⟩
theorem cd_X3_boxHeight : Cond.code yX3_boxHeight cX3_boxHeight 3 (some .int) ∈ g_ws := g_tb (i := 736) (by decide +kernel) (by decide)
theorem sl_X3_boxHeight : Cond.selects yX3_boxHeight.cls yX3_boxHeight yX3_boxHeight ∈ g_ws := g_sel (i := 15) (q := (yX3_boxHeight, 5)) (by decide +kernel) (by decide)
theorem mw_X3_boxHeight : Cond.instanceMethod yX3_boxHeight ∈ g_ws := g_tb (i := 735) (by decide +kernel) (by decide)
theorem mk_X3_149 : g_MV RX3 149 yX3_boxHeight cX3_boxHeight 3 (some .int) 2 := ⟨⟨g_tb (i := 733) (by decide +kernel) (by decide), ini_RX3, cd_X3_boxHeight, ⟨by decide, by decide⟩, by decide +kernel⟩, mw_X3_boxHeight, sl_X3_boxHeight⟩
theorem cd_X7_widthIn : Cond.code yX7_widthIn cX7_widthIn 1 (some .int) ∈ g_ws := g_tb (i := 739) (by decide +kernel) (by decide)
theorem mw_X7_widthIn : Cond.static yX7_widthIn ∈ g_ws := g_tb (i := 738) (by decide +kernel) (by decide)
theorem mk_X3_238 : g_MS RX3 238 yX7_widthIn cX7_widthIn 1 (some .int) 1 := ⟨⟨g_tb (i := 737) (by decide +kernel) (by decide), ini_RX7, cd_X7_widthIn, ⟨by decide, by decide⟩, by decide +kernel⟩, mw_X7_widthIn⟩
theorem cd_X7_heightIn : Cond.code yX7_heightIn cX7_heightIn 1 (some .int) ∈ g_ws := g_tb (i := 742) (by decide +kernel) (by decide)
theorem mw_X7_heightIn : Cond.static yX7_heightIn ∈ g_ws := g_tb (i := 741) (by decide +kernel) (by decide)
theorem mk_X3_241 : g_MS RX3 241 yX7_heightIn cX7_heightIn 1 (some .int) 1 := ⟨⟨g_tb (i := 740) (by decide +kernel) (by decide), ini_RX7, cd_X7_heightIn, ⟨by decide, by decide⟩, by decide +kernel⟩, mw_X7_heightIn⟩
theorem fl_X3_244 : g_FL RX3 244 6 11 RX5 TX5 12 := ⟨rfl, by decide, in_X5, g_tb (i := 161) (by decide +kernel) (by decide), rfl⟩
theorem fl_X3_21 : g_FL RX3 21 4 3 RX3 TX3 5 := ⟨rfl, by decide, in_X3, g_tb (i := 356) (by decide +kernel) (by decide), rfl⟩
theorem ini_RX1 : Cond.initialized RX1 ∈ g_ws := g_tb (i := 16) (by decide +kernel) (by decide)
theorem cd_X1_offer : Cond.code yX1_offer cX1_offer 6 none ∈ g_ws := g_tb (i := 746) (by decide +kernel) (by decide)
theorem sl_X1_offer : Cond.selects yX1_offer.cls yX1_offer yX1_offer ∈ g_ws := g_tb (i := 745) (by decide +kernel) (by decide)
theorem mw_X1_offer : Cond.instanceMethod yX1_offer ∈ g_ws := g_tb (i := 744) (by decide +kernel) (by decide)
theorem mk_X3_247 : g_MV RX3 247 yX1_offer cX1_offer 6 none 4 := ⟨⟨g_tb (i := 743) (by decide +kernel) (by decide), ini_RX1, cd_X1_offer, ⟨by decide, by decide⟩, by decide +kernel⟩, mw_X1_offer, sl_X1_offer⟩
theorem mk_X3_250 : g_MS RX3 250 yX7_topIn cX7_topIn 1 (some .int) 1 := ⟨⟨g_tb (i := 753) (by decide +kernel) (by decide), ini_RX7, cd_X7_topIn, ⟨by decide, by decide⟩, by decide +kernel⟩, mw_X7_topIn⟩
theorem mk_X3_253 : g_MS RX3 253 yX7_leftIn cX7_leftIn 1 (some .int) 1 := ⟨⟨g_tb (i := 754) (by decide +kernel) (by decide), ini_RX7, cd_X7_leftIn, ⟨by decide, by decide⟩, by decide +kernel⟩, mw_X7_leftIn⟩
theorem cd_X3_offer : Cond.code yX3_offer cX3_offer 10 none ∈ g_ws := g_tb (i := 724) (by decide +kernel) (by decide)
theorem sl_X3_offer : Cond.selects yX3_offer.cls yX3_offer yX3_offer ∈ g_ws := g_sel (i := 13) (q := (yX3_offer, 5)) (by decide +kernel) (by decide)
theorem mw_X3_offer : Cond.instanceMethod yX3_offer ∈ g_ws := g_tb (i := 723) (by decide +kernel) (by decide)
theorem mk_X3_231 : g_MV RX3 231 yX3_offer cX3_offer 10 none 3 := ⟨⟨g_tb (i := 721) (by decide +kernel) (by decide), ini_RX3, cd_X3_offer, ⟨by decide, by decide⟩, by decide +kernel⟩, mw_X3_offer, sl_X3_offer⟩
theorem fl_X3_235 : g_FL RX3 235 6 8 RX5 TX5 12 := ⟨rfl, by decide, in_X5, g_tb (i := 152) (by decide +kernel) (by decide), rfl⟩
theorem cd_X1_startOn : Cond.code yX1_startOn cX1_startOn 2 none ∈ g_ws := g_tb (i := 712) (by decide +kernel) (by decide)
theorem sl_X1_startOn : Cond.selects yX1_startOn.cls yX1_startOn yX1_startOn ∈ g_ws := g_tb (i := 711) (by decide +kernel) (by decide)
theorem mw_X1_startOn : Cond.instanceMethod yX1_startOn ∈ g_ws := g_tb (i := 710) (by decide +kernel) (by decide)
theorem mk_X3_209 : g_MV RX3 209 yX1_startOn cX1_startOn 2 none 1 := ⟨⟨g_tb (i := 709) (by decide +kernel) (by decide), ini_RX1, cd_X1_startOn, ⟨by decide, by decide⟩, by decide +kernel⟩, mw_X1_startOn, sl_X1_startOn⟩
theorem fl_X3_12 : g_FL RX3 12 4 2 RX3 TX3 5 := ⟨rfl, by decide, in_X3, g_tb (i := 354) (by decide +kernel) (by decide), rfl⟩
theorem fl_X3_212 : g_FL RX3 212 8 4 RX7 TX7 5 := ⟨rfl, by decide, in_X7, g_tb (i := 305) (by decide +kernel) (by decide), rfl⟩
theorem cd_X7_codeOf : Cond.code yX7_codeOf cX7_codeOf 3 (some .int) ∈ g_ws := g_tb (i := 716) (by decide +kernel) (by decide)
theorem sl_X7_codeOf : Cond.selects yX7_codeOf.cls yX7_codeOf yX7_codeOf ∈ g_ws := g_tb (i := 715) (by decide +kernel) (by decide)
theorem mw_X7_codeOf : Cond.instanceMethod yX7_codeOf ∈ g_ws := g_tb (i := 714) (by decide +kernel) (by decide)
theorem mk_X3_215 : g_MV RX3 215 yX7_codeOf cX7_codeOf 3 (some .int) 2 := ⟨⟨g_tb (i := 713) (by decide +kernel) (by decide), ini_RX7, cd_X7_codeOf, ⟨by decide, by decide⟩, by decide +kernel⟩, mw_X7_codeOf, sl_X7_codeOf⟩
theorem cd_X3_offerBoth : Cond.code yX3_offerBoth cX3_offerBoth 3 none ∈ g_ws := g_tb (i := 720) (by decide +kernel) (by decide)
theorem sl_X3_offerBoth : Cond.selects yX3_offerBoth.cls yX3_offerBoth yX3_offerBoth ∈ g_ws := g_sel (i := 12) (q := (yX3_offerBoth, 5)) (by decide +kernel) (by decide)
theorem mw_X3_offerBoth : Cond.instanceMethod yX3_offerBoth ∈ g_ws := g_tb (i := 719) (by decide +kernel) (by decide)
theorem mk_X3_218 : g_MV RX3 218 yX3_offerBoth cX3_offerBoth 3 none 2 := ⟨⟨g_tb (i := 717) (by decide +kernel) (by decide), ini_RX3, cd_X3_offerBoth, ⟨by decide, by decide⟩, by decide +kernel⟩, mw_X3_offerBoth, sl_X3_offerBoth⟩
theorem fl_X3_221 : g_FL RX3 221 2 0 RX1 TX1 7 := ⟨rfl, by decide, in_X1, g_tb (i := 326) (by decide +kernel) (by decide), rfl⟩
theorem cd_X5_fieldWidth : Cond.code yX5_fieldWidth cX5_fieldWidth 1 (some .int) ∈ g_ws := g_tb (i := 766) (by decide +kernel) (by decide)
theorem sl_X5_fieldWidth : Cond.selects yX5_fieldWidth.cls yX5_fieldWidth yX5_fieldWidth ∈ g_ws := g_tb (i := 765) (by decide +kernel) (by decide)
theorem mw_X5_fieldWidth : Cond.instanceMethod yX5_fieldWidth ∈ g_ws := g_tb (i := 764) (by decide +kernel) (by decide)
theorem mk_X5_40 : g_MV RX5 40 yX5_fieldWidth cX5_fieldWidth 1 (some .int) 0 := ⟨⟨g_tb (i := 763) (by decide +kernel) (by decide), ini_RX5, cd_X5_fieldWidth, ⟨by decide, by decide⟩, by decide +kernel⟩, mw_X5_fieldWidth, sl_X5_fieldWidth⟩
theorem mm_X5_44 : g_Mth RX5 44 Lib.Math.max.name Lib.Math.max.code := ⟨g_tb (i := 767) (by decide +kernel) (by decide), g_tb (i := 560) (by decide +kernel) (by decide), g_tb (i := 19) (by decide +kernel) (by decide), g_tb (i := 561) (by decide +kernel) (by decide)⟩
theorem cd_X5_fieldHeight : Cond.code yX5_fieldHeight cX5_fieldHeight 1 (some .int) ∈ g_ws := g_tb (i := 771) (by decide +kernel) (by decide)
theorem sl_X5_fieldHeight : Cond.selects yX5_fieldHeight.cls yX5_fieldHeight yX5_fieldHeight ∈ g_ws := g_tb (i := 770) (by decide +kernel) (by decide)
theorem mw_X5_fieldHeight : Cond.instanceMethod yX5_fieldHeight ∈ g_ws := g_tb (i := 769) (by decide +kernel) (by decide)
theorem mk_X5_50 : g_MV RX5 50 yX5_fieldHeight cX5_fieldHeight 1 (some .int) 0 := ⟨⟨g_tb (i := 768) (by decide +kernel) (by decide), ini_RX5, cd_X5_fieldHeight, ⟨by decide, by decide⟩, by decide +kernel⟩, mw_X5_fieldHeight, sl_X5_fieldHeight⟩
theorem fl_X3_60 : g_FL RX3 60 5 0 RX4 TX4 6 := ⟨rfl, by decide, in_X4, g_tb (i := 198) (by decide +kernel) (by decide), rfl⟩
theorem cd_X5_fieldPositions : Cond.code yX5_fieldPositions cX5_fieldPositions 1 (some .int) ∈ g_ws := g_tb (i := 762) (by decide +kernel) (by decide)
theorem sl_X5_fieldPositions : Cond.selects yX5_fieldPositions.cls yX5_fieldPositions yX5_fieldPositions ∈ g_ws := g_tb (i := 761) (by decide +kernel) (by decide)
theorem mw_X5_fieldPositions : Cond.instanceMethod yX5_fieldPositions ∈ g_ws := g_tb (i := 760) (by decide +kernel) (by decide)
theorem mk_X3_224 : g_MV RX3 224 yX5_fieldPositions cX5_fieldPositions 1 (some .int) 0 := ⟨⟨g_tb (i := 759) (by decide +kernel) (by decide), ini_RX5, cd_X5_fieldPositions, ⟨by decide, by decide⟩, by decide +kernel⟩, mw_X5_fieldPositions, sl_X5_fieldPositions⟩
theorem mk_X3_132 : g_MV RX3 132 yX5_fieldWidth cX5_fieldWidth 1 (some .int) 0 := ⟨⟨g_tb (i := 772) (by decide +kernel) (by decide), ini_RX5, cd_X5_fieldWidth, ⟨by decide, by decide⟩, by decide +kernel⟩, mw_X5_fieldWidth, sl_X5_fieldWidth⟩
theorem mk_X3_135 : g_MV RX3 135 yX5_fieldHeight cX5_fieldHeight 1 (some .int) 0 := ⟨⟨g_tb (i := 773) (by decide +kernel) (by decide), ini_RX5, cd_X5_fieldHeight, ⟨by decide, by decide⟩, by decide +kernel⟩, mw_X5_fieldHeight, sl_X5_fieldHeight⟩
theorem cd_X7_code : Cond.code yX7_code cX7_code 4 (some .int) ∈ g_ws := g_tb (i := 776) (by decide +kernel) (by decide)
theorem mw_X7_code : Cond.static yX7_code ∈ g_ws := g_tb (i := 775) (by decide +kernel) (by decide)
theorem mk_X3_227 : g_MS RX3 227 yX7_code cX7_code 4 (some .int) 4 := ⟨⟨g_tb (i := 774) (by decide +kernel) (by decide), ini_RX7, cd_X7_code, ⟨by decide, by decide⟩, by decide +kernel⟩, mw_X7_code⟩
theorem cd_X3_isOpenTo : Cond.code yX3_isOpenTo cX3_isOpenTo 3 (some .boolean) ∈ g_ws := g_tb (i := 700) (by decide +kernel) (by decide)
theorem sl_X3_isOpenTo : Cond.selects yX3_isOpenTo.cls yX3_isOpenTo yX3_isOpenTo ∈ g_ws := g_sel (i := 10) (q := (yX3_isOpenTo, 5)) (by decide +kernel) (by decide)
theorem mw_X3_isOpenTo : Cond.instanceMethod yX3_isOpenTo ∈ g_ws := g_tb (i := 699) (by decide +kernel) (by decide)
theorem mk_X3_64 : g_MV RX3 64 yX3_isOpenTo cX3_isOpenTo 3 (some .boolean) 2 := ⟨⟨g_tb (i := 697) (by decide +kernel) (by decide), ini_RX3, cd_X3_isOpenTo, ⟨by decide, by decide⟩, by decide +kernel⟩, mw_X3_isOpenTo, sl_X3_isOpenTo⟩
theorem fl_X3_75 : g_FL RX3 75 6 2 RX5 TX5 12 := ⟨rfl, by decide, in_X5, g_tb (i := 136) (by decide +kernel) (by decide), rfl⟩
theorem cd_X3_chooseOn : Cond.code yX3_chooseOn cX3_chooseOn 4 (some .boolean) ∈ g_ws := g_tb (i := 708) (by decide +kernel) (by decide)
theorem sl_X3_chooseOn : Cond.selects yX3_chooseOn.cls yX3_chooseOn yX3_chooseOn ∈ g_ws := g_sel (i := 11) (q := (yX3_chooseOn, 5)) (by decide +kernel) (by decide)
theorem mw_X3_chooseOn : Cond.instanceMethod yX3_chooseOn ∈ g_ws := g_tb (i := 707) (by decide +kernel) (by decide)
theorem mk_X3_68 : g_MV RX3 68 yX3_chooseOn cX3_chooseOn 4 (some .boolean) 2 := ⟨⟨g_tb (i := 705) (by decide +kernel) (by decide), ini_RX3, cd_X3_chooseOn, ⟨by decide, by decide⟩, by decide +kernel⟩, mw_X3_chooseOn, sl_X3_chooseOn⟩
theorem cd_X3_chooseOnNewPage : Cond.code yX3_chooseOnNewPage cX3_chooseOnNewPage 2 (some .boolean) ∈ g_ws := g_tb (i := 758) (by decide +kernel) (by decide)
theorem sl_X3_chooseOnNewPage : Cond.selects yX3_chooseOnNewPage.cls yX3_chooseOnNewPage yX3_chooseOnNewPage ∈ g_ws := g_sel (i := 16) (q := (yX3_chooseOnNewPage, 5)) (by decide +kernel) (by decide)
theorem mw_X3_chooseOnNewPage : Cond.instanceMethod yX3_chooseOnNewPage ∈ g_ws := g_tb (i := 757) (by decide +kernel) (by decide)
theorem mk_X3_80 : g_MV RX3 80 yX3_chooseOnNewPage cX3_chooseOnNewPage 2 (some .boolean) 1 := ⟨⟨g_tb (i := 755) (by decide +kernel) (by decide), ini_RX3, cd_X3_chooseOnNewPage, ⟨by decide, by decide⟩, by decide +kernel⟩, mw_X3_chooseOnNewPage, sl_X3_chooseOnNewPage⟩
theorem cd_J7_rangeCheck_23922 : Cond.code yJ7_rangeCheck_23922 cJ7_rangeCheck_23922 3 none ∈ g_ws := g_tb (i := 484) (by decide +kernel) (by decide)
theorem mw_J7_rangeCheck_23922 : Cond.static yJ7_rangeCheck_23922 ∈ g_ws := g_tb (i := 483) (by decide +kernel) (by decide)
theorem mk_J7_13 : g_MS RJ7 13 yJ7_rangeCheck_23922 cJ7_rangeCheck_23922 3 none 3 := ⟨⟨g_tb (i := 482) (by decide +kernel) (by decide), ini_RJ7, cd_J7_rangeCheck_23922, ⟨by decide, by decide⟩, by decide +kernel⟩, mw_J7_rangeCheck_23922⟩
theorem mm_X7_22 : g_Mth RX7 22 Lib.Math.max.name Lib.Math.max.code := ⟨g_tb (i := 789) (by decide +kernel) (by decide), g_tb (i := 560) (by decide +kernel) (by decide), g_tb (i := 19) (by decide +kernel) (by decide), g_tb (i := 561) (by decide +kernel) (by decide)⟩
theorem fl_X7_28 : g_FL RX7 28 8 1 RX7 TX7 5 := ⟨rfl, by decide, in_X7, g_tb (i := 301) (by decide +kernel) (by decide), rfl⟩
theorem mm_X7_32 : g_Mth RX7 32 Lib.Math.min.name Lib.Math.min.code := ⟨g_tb (i := 790) (by decide +kernel) (by decide), g_tb (i := 465) (by decide +kernel) (by decide), g_tb (i := 19) (by decide +kernel) (by decide), g_tb (i := 466) (by decide +kernel) (by decide)⟩
theorem fl_X7_35 : g_FL RX7 35 8 2 RX7 TX7 5 := ⟨rfl, by decide, in_X7, g_tb (i := 302) (by decide +kernel) (by decide), rfl⟩
theorem fl_X7_9 : g_FL RX7 9 8 0 RX7 TX7 5 := ⟨rfl, by decide, in_X7, g_tb (i := 300) (by decide +kernel) (by decide), rfl⟩
theorem cd_J7_fill_bad5a : Cond.code yJ7_fill_bad5a cJ7_fill_bad5a 6 none ∈ g_ws := g_tb (i := 793) (by decide +kernel) (by decide)
theorem mw_J7_fill_bad5a : Cond.static yJ7_fill_bad5a ∈ g_ws := g_tb (i := 792) (by decide +kernel) (by decide)
theorem mk_X7_38 : g_MS RX7 38 yJ7_fill_bad5a cJ7_fill_bad5a 6 none 4 := ⟨⟨g_tb (i := 791) (by decide +kernel) (by decide), ini_RJ7, cd_J7_fill_bad5a, ⟨by decide, by decide⟩, by decide +kernel⟩, mw_J7_fill_bad5a⟩
theorem kc_X7_44 : Cond.constantLong RX7 44 (-1) ∈ g_ws := g_tb (i := 798) (by decide +kernel) (by decide)
theorem kc_J13_314 : Cond.constantLong RJ13 314 (6148914691236517205) ∈ g_ws := g_tb (i := 810) (by decide +kernel) (by decide)
theorem kc_J13_316 : Cond.constantLong RJ13 316 (3689348814741910323) ∈ g_ws := g_tb (i := 811) (by decide +kernel) (by decide)
theorem kc_J13_318 : Cond.constantLong RJ13 318 (1085102592571150095) ∈ g_ws := g_tb (i := 812) (by decide +kernel) (by decide)
theorem fl_X7_19 : g_FL RX7 19 8 4 RX7 TX7 5 := ⟨rfl, by decide, in_X7, g_tb (i := 304) (by decide +kernel) (by decide), rfl⟩
theorem ini_RJ13 : Cond.initialized RJ13 ∈ g_ws := g_tb (i := 21) (by decide +kernel) (by decide)
theorem cd_J13_bitCount_95d88 : Cond.code yJ13_bitCount_95d88 cJ13_bitCount_95d88 2 (some .int) ∈ g_ws := g_tb (i := 809) (by decide +kernel) (by decide)
theorem mw_J13_bitCount_95d88 : Cond.static yJ13_bitCount_95d88 ∈ g_ws := g_tb (i := 808) (by decide +kernel) (by decide)
theorem mk_X7_50 : g_MS RX7 50 yJ13_bitCount_95d88 cJ13_bitCount_95d88 2 (some .int) 1 := ⟨⟨g_tb (i := 807) (by decide +kernel) (by decide), ini_RJ13, cd_J13_bitCount_95d88, ⟨by decide, by decide⟩, by decide +kernel⟩, mw_J13_bitCount_95d88⟩
theorem mk_X7_56 : g_MS RX7 56 yX7_code cX7_code 4 (some .int) 4 := ⟨⟨g_tb (i := 813) (by decide +kernel) (by decide), ini_RX7, cd_X7_code, ⟨by decide, by decide⟩, by decide +kernel⟩, mw_X7_code⟩
theorem cd_X7_addSorted : Cond.code yX7_addSorted cX7_addSorted 5 none ∈ g_ws := g_tb (i := 817) (by decide +kernel) (by decide)
theorem sl_X7_addSorted : Cond.selects yX7_addSorted.cls yX7_addSorted yX7_addSorted ∈ g_ws := g_sel (i := 18) (q := (yX7_addSorted, 5)) (by decide +kernel) (by decide)
theorem mw_X7_addSorted : Cond.instanceMethod yX7_addSorted ∈ g_ws := g_tb (i := 816) (by decide +kernel) (by decide)
theorem mk_X7_60 : g_MV RX7 60 yX7_addSorted cX7_addSorted 5 none 2 := ⟨⟨g_tb (i := 814) (by decide +kernel) (by decide), ini_RX7, cd_X7_addSorted, ⟨by decide, by decide⟩, by decide +kernel⟩, mw_X7_addSorted, sl_X7_addSorted⟩
theorem cd_X7_collectRuns : Cond.code yX7_collectRuns cX7_collectRuns 17 none ∈ g_ws := g_tb (i := 806) (by decide +kernel) (by decide)
theorem sl_X7_collectRuns : Cond.selects yX7_collectRuns.cls yX7_collectRuns yX7_collectRuns ∈ g_ws := g_sel (i := 17) (q := (yX7_collectRuns, 5)) (by decide +kernel) (by decide)
theorem mw_X7_collectRuns : Cond.instanceMethod yX7_collectRuns ∈ g_ws := g_tb (i := 805) (by decide +kernel) (by decide)
theorem mk_X7_46 : g_MV RX7 46 yX7_collectRuns cX7_collectRuns 17 none 6 := ⟨⟨g_tb (i := 803) (by decide +kernel) (by decide), ini_RX7, cd_X7_collectRuns, ⟨by decide, by decide⟩, by decide +kernel⟩, mw_X7_collectRuns, sl_X7_collectRuns⟩
theorem cd_X7_open : Cond.code yX7_open cX7_open 3 none ∈ g_ws := g_tb (i := 788) (by decide +kernel) (by decide)
theorem sl_X7_open : Cond.selects yX7_open.cls yX7_open yX7_open ∈ g_ws := g_tb (i := 787) (by decide +kernel) (by decide)
theorem mw_X7_open : Cond.instanceMethod yX7_open ∈ g_ws := g_tb (i := 786) (by decide +kernel) (by decide)
theorem mk_X3_138 : g_MV RX3 138 yX7_open cX7_open 3 none 2 := ⟨⟨g_tb (i := 785) (by decide +kernel) (by decide), ini_RX7, cd_X7_open, ⟨by decide, by decide⟩, by decide +kernel⟩, mw_X7_open, sl_X7_open⟩
theorem fl_X3_107 : g_FL RX3 107 5 2 RX4 TX4 6 := ⟨rfl, by decide, in_X4, g_tb (i := 203) (by decide +kernel) (by decide), rfl⟩
theorem cd_X7_collect : Cond.code yX7_collect cX7_collect 10 none ∈ g_ws := g_tb (i := 802) (by decide +kernel) (by decide)
theorem sl_X7_collect : Cond.selects yX7_collect.cls yX7_collect yX7_collect ∈ g_ws := g_tb (i := 801) (by decide +kernel) (by decide)
theorem mw_X7_collect : Cond.instanceMethod yX7_collect ∈ g_ws := g_tb (i := 800) (by decide +kernel) (by decide)
theorem mk_X3_156 : g_MV RX3 156 yX7_collect cX7_collect 10 none 1 := ⟨⟨g_tb (i := 799) (by decide +kernel) (by decide), ini_RX7, cd_X7_collect, ⟨by decide, by decide⟩, by decide +kernel⟩, mw_X7_collect, sl_X7_collect⟩
theorem fl_X3_122 : g_FL RX3 122 5 5 RX4 TX4 6 := ⟨rfl, by decide, in_X4, g_tb (i := 210) (by decide +kernel) (by decide), rfl⟩
theorem fl_X3_110 : g_FL RX3 110 5 3 RX4 TX4 6 := ⟨rfl, by decide, in_X4, g_tb (i := 206) (by decide +kernel) (by decide), rfl⟩
theorem fl_X3_116 : g_FL RX3 116 5 4 RX4 TX4 6 := ⟨rfl, by decide, in_X4, g_tb (i := 208) (by decide +kernel) (by decide), rfl⟩
theorem cd_X7_block : Cond.code yX7_block cX7_block 8 none ∈ g_ws := g_tb (i := 797) (by decide +kernel) (by decide)
theorem sl_X7_block : Cond.selects yX7_block.cls yX7_block yX7_block ∈ g_ws := g_tb (i := 796) (by decide +kernel) (by decide)
theorem mw_X7_block : Cond.instanceMethod yX7_block ∈ g_ws := g_tb (i := 795) (by decide +kernel) (by decide)
theorem mk_X3_152 : g_MV RX3 152 yX7_block cX7_block 8 none 4 := ⟨⟨g_tb (i := 794) (by decide +kernel) (by decide), ini_RX7, cd_X7_block, ⟨by decide, by decide⟩, by decide +kernel⟩, mw_X7_block, sl_X7_block⟩
theorem fl_X3_83 : g_FL RX3 83 2 1 RX1 TX1 7 := ⟨rfl, by decide, in_X1, g_tb (i := 328) (by decide +kernel) (by decide), rfl⟩
theorem fl_X3_113 : g_FL RX3 113 2 2 RX1 TX1 7 := ⟨rfl, by decide, in_X1, g_tb (i := 330) (by decide +kernel) (by decide), rfl⟩
theorem fl_X3_119 : g_FL RX3 119 2 3 RX1 TX1 7 := ⟨rfl, by decide, in_X1, g_tb (i := 332) (by decide +kernel) (by decide), rfl⟩
theorem fl_X3_126 : g_FL RX3 126 2 4 RX1 TX1 7 := ⟨rfl, by decide, in_X1, g_tb (i := 334) (by decide +kernel) (by decide), rfl⟩
theorem cd_X3_survey : Cond.code yX3_survey cX3_survey 5 none ∈ g_ws := g_tb (i := 784) (by decide +kernel) (by decide)
theorem sl_X3_survey : Cond.selects yX3_survey.cls yX3_survey yX3_survey ∈ g_ws := g_tb (i := 783) (by decide +kernel) (by decide)
theorem mw_X3_survey : Cond.instanceMethod yX3_survey ∈ g_ws := g_tb (i := 782) (by decide +kernel) (by decide)
theorem mk_X3_129 : g_MV RX3 129 yX3_survey cX3_survey 5 none 1 := ⟨⟨g_tb (i := 781) (by decide +kernel) (by decide), ini_RX3, cd_X3_survey, ⟨by decide, by decide⟩, by decide +kernel⟩, mw_X3_survey, sl_X3_survey⟩
theorem cd_X4_removeAll : Cond.code yX4_removeAll cX4_removeAll 1 none ∈ g_ws := g_tb (i := 593) (by decide +kernel) (by decide)
theorem sl_X4_removeAll : Cond.selects yX4_removeAll.cls yX4_removeAll yX4_removeAll ∈ g_ws := g_tb (i := 592) (by decide +kernel) (by decide)
theorem mw_X4_removeAll : Cond.instanceMethod yX4_removeAll ∈ g_ws := g_tb (i := 591) (by decide +kernel) (by decide)
theorem mk_X3_43 : g_MV RX3 43 yX4_removeAll cX4_removeAll 1 none 0 := ⟨⟨g_tb (i := 681) (by decide +kernel) (by decide), ini_RX4, cd_X4_removeAll, ⟨by decide, by decide⟩, by decide +kernel⟩, mw_X4_removeAll, sl_X4_removeAll⟩
theorem cd_X3_lineUp : Cond.code yX3_lineUp cX3_lineUp 4 (some .int) ∈ g_ws := g_tb (i := 685) (by decide +kernel) (by decide)
theorem sl_X3_lineUp : Cond.selects yX3_lineUp.cls yX3_lineUp yX3_lineUp ∈ g_ws := g_sel (i := 8) (q := (yX3_lineUp, 5)) (by decide +kernel) (by decide)
theorem mw_X3_lineUp : Cond.instanceMethod yX3_lineUp ∈ g_ws := g_tb (i := 684) (by decide +kernel) (by decide)
theorem mk_X3_48 : g_MV RX3 48 yX3_lineUp cX3_lineUp 4 (some .int) 0 := ⟨⟨g_tb (i := 682) (by decide +kernel) (by decide), ini_RX3, cd_X3_lineUp, ⟨by decide, by decide⟩, by decide +kernel⟩, mw_X3_lineUp, sl_X3_lineUp⟩
theorem cd_X3_choose : Cond.code yX3_choose cX3_choose 3 (some .boolean) ∈ g_ws := g_tb (i := 696) (by decide +kernel) (by decide)
theorem sl_X3_choose : Cond.selects yX3_choose.cls yX3_choose yX3_choose ∈ g_ws := g_tb (i := 695) (by decide +kernel) (by decide)
theorem mw_X3_choose : Cond.instanceMethod yX3_choose ∈ g_ws := g_tb (i := 694) (by decide +kernel) (by decide)
theorem mk_X3_52 : g_MV RX3 52 yX3_choose cX3_choose 3 (some .boolean) 1 := ⟨⟨g_tb (i := 693) (by decide +kernel) (by decide), ini_RX3, cd_X3_choose, ⟨by decide, by decide⟩, by decide +kernel⟩, mw_X3_choose, sl_X3_choose⟩
theorem cd_X3_putAsChosen : Cond.code yX3_putAsChosen cX3_putAsChosen 4 none ∈ g_ws := g_tb (i := 780) (by decide +kernel) (by decide)
theorem sl_X3_putAsChosen : Cond.selects yX3_putAsChosen.cls yX3_putAsChosen yX3_putAsChosen ∈ g_ws := g_tb (i := 779) (by decide +kernel) (by decide)
theorem mw_X3_putAsChosen : Cond.instanceMethod yX3_putAsChosen ∈ g_ws := g_tb (i := 778) (by decide +kernel) (by decide)
theorem mk_X3_56 : g_MV RX3 56 yX3_putAsChosen cX3_putAsChosen 4 none 1 := ⟨⟨g_tb (i := 777) (by decide +kernel) (by decide), ini_RX3, cd_X3_putAsChosen, ⟨by decide, by decide⟩, by decide +kernel⟩, mw_X3_putAsChosen, sl_X3_putAsChosen⟩
theorem fl_X3_159 : g_FL RX3 159 6 4 RX5 TX5 12 := ⟨rfl, by decide, in_X5, g_tb (i := 141) (by decide +kernel) (by decide), rfl⟩
theorem fl_X3_162 : g_FL RX3 162 6 5 RX5 TX5 12 := ⟨rfl, by decide, in_X5, g_tb (i := 144) (by decide +kernel) (by decide), rfl⟩
theorem cd_X3_imageColumn : Cond.code yX3_imageColumn cX3_imageColumn 2 (some .int) ∈ g_ws := g_tb (i := 861) (by decide +kernel) (by decide)
theorem sl_X3_imageColumn : Cond.selects yX3_imageColumn.cls yX3_imageColumn yX3_imageColumn ∈ g_ws := g_tb (i := 860) (by decide +kernel) (by decide)
theorem mw_X3_imageColumn : Cond.instanceMethod yX3_imageColumn ∈ g_ws := g_tb (i := 859) (by decide +kernel) (by decide)
theorem mk_X3_165 : g_MV RX3 165 yX3_imageColumn cX3_imageColumn 2 (some .int) 1 := ⟨⟨g_tb (i := 909) (by decide +kernel) (by decide), ini_RX3, cd_X3_imageColumn, ⟨by decide, by decide⟩, by decide +kernel⟩, mw_X3_imageColumn, sl_X3_imageColumn⟩
theorem cd_X3_imageRow : Cond.code yX3_imageRow cX3_imageRow 2 (some .int) ∈ g_ws := g_tb (i := 869) (by decide +kernel) (by decide)
theorem sl_X3_imageRow : Cond.selects yX3_imageRow.cls yX3_imageRow yX3_imageRow ∈ g_ws := g_tb (i := 868) (by decide +kernel) (by decide)
theorem mw_X3_imageRow : Cond.instanceMethod yX3_imageRow ∈ g_ws := g_tb (i := 867) (by decide +kernel) (by decide)
theorem mk_X3_169 : g_MV RX3 169 yX3_imageRow cX3_imageRow 2 (some .int) 1 := ⟨⟨g_tb (i := 910) (by decide +kernel) (by decide), ini_RX3, cd_X3_imageRow, ⟨by decide, by decide⟩, by decide +kernel⟩, mw_X3_imageRow, sl_X3_imageRow⟩
theorem cd_X3_imageWidth : Cond.code yX3_imageWidth cX3_imageWidth 2 (some .int) ∈ g_ws := g_tb (i := 914) (by decide +kernel) (by decide)
theorem sl_X3_imageWidth : Cond.selects yX3_imageWidth.cls yX3_imageWidth yX3_imageWidth ∈ g_ws := g_sel (i := 23) (q := (yX3_imageWidth, 5)) (by decide +kernel) (by decide)
theorem mw_X3_imageWidth : Cond.instanceMethod yX3_imageWidth ∈ g_ws := g_tb (i := 913) (by decide +kernel) (by decide)
theorem mk_X3_172 : g_MV RX3 172 yX3_imageWidth cX3_imageWidth 2 (some .int) 1 := ⟨⟨g_tb (i := 911) (by decide +kernel) (by decide), ini_RX3, cd_X3_imageWidth, ⟨by decide, by decide⟩, by decide +kernel⟩, mw_X3_imageWidth, sl_X3_imageWidth⟩
theorem cd_X3_imageHeight : Cond.code yX3_imageHeight cX3_imageHeight 2 (some .int) ∈ g_ws := g_tb (i := 918) (by decide +kernel) (by decide)
theorem sl_X3_imageHeight : Cond.selects yX3_imageHeight.cls yX3_imageHeight yX3_imageHeight ∈ g_ws := g_sel (i := 24) (q := (yX3_imageHeight, 5)) (by decide +kernel) (by decide)
theorem mw_X3_imageHeight : Cond.instanceMethod yX3_imageHeight ∈ g_ws := g_tb (i := 917) (by decide +kernel) (by decide)
theorem mk_X3_175 : g_MV RX3 175 yX3_imageHeight cX3_imageHeight 2 (some .int) 1 := ⟨⟨g_tb (i := 915) (by decide +kernel) (by decide), ini_RX3, cd_X3_imageHeight, ⟨by decide, by decide⟩, by decide +kernel⟩, mw_X3_imageHeight, sl_X3_imageHeight⟩
theorem cd_X3_ownerOf : Cond.code yX3_ownerOf cX3_ownerOf 8 (some .int) ∈ g_ws := g_tb (i := 908) (by decide +kernel) (by decide)
theorem sl_X3_ownerOf : Cond.selects yX3_ownerOf.cls yX3_ownerOf yX3_ownerOf ∈ g_ws := g_tb (i := 907) (by decide +kernel) (by decide)
theorem mw_X3_ownerOf : Cond.instanceMethod yX3_ownerOf ∈ g_ws := g_tb (i := 906) (by decide +kernel) (by decide)
theorem mk_X3_178 : g_MV RX3 178 yX3_ownerOf cX3_ownerOf 8 (some .int) 3 := ⟨⟨g_tb (i := 905) (by decide +kernel) (by decide), ini_RX3, cd_X3_ownerOf, ⟨by decide, by decide⟩, by decide +kernel⟩, mw_X3_ownerOf, sl_X3_ownerOf⟩
theorem mk_X3_185 : g_MV RX3 185 yX0_colorIn cX0_colorIn 11 (some .int) 5 := ⟨⟨g_tb (i := 919) (by decide +kernel) (by decide), ini_RX0, cd_X0_colorIn, ⟨by decide, by decide⟩, by decide +kernel⟩, mw_X0_colorIn, sl_X0_colorIn⟩
theorem cd_X6_has : Cond.code yX6_has cX6_has 2 (some .boolean) ∈ g_ws := g_tb (i := 496) (by decide +kernel) (by decide)
theorem sl_X6_has : Cond.selects yX6_has.cls yX6_has yX6_has ∈ g_ws := g_tb (i := 495) (by decide +kernel) (by decide)
theorem mw_X6_has : Cond.instanceMethod yX6_has ∈ g_ws := g_tb (i := 494) (by decide +kernel) (by decide)
theorem mk_X6_28 : g_MV RX6 28 yX6_has cX6_has 2 (some .boolean) 1 := ⟨⟨g_tb (i := 493) (by decide +kernel) (by decide), ini_RX6, cd_X6_has, ⟨by decide, by decide⟩, by decide +kernel⟩, mw_X6_has, sl_X6_has⟩
theorem cd_X6_hasPixel : Cond.code yX6_hasPixel cX6_hasPixel 4 (some .boolean) ∈ g_ws := g_tb (i := 492) (by decide +kernel) (by decide)
theorem sl_X6_hasPixel : Cond.selects yX6_hasPixel.cls yX6_hasPixel yX6_hasPixel ∈ g_ws := g_tb (i := 491) (by decide +kernel) (by decide)
theorem mw_X6_hasPixel : Cond.instanceMethod yX6_hasPixel ∈ g_ws := g_tb (i := 490) (by decide +kernel) (by decide)
theorem mk_X6_32 : g_MV RX6 32 yX6_hasPixel cX6_hasPixel 4 (some .boolean) 3 := ⟨⟨g_tb (i := 489) (by decide +kernel) (by decide), ini_RX6, cd_X6_hasPixel, ⟨by decide, by decide⟩, by decide +kernel⟩, mw_X6_hasPixel, sl_X6_hasPixel⟩
theorem cd_J7_fill_fda19 : Cond.code yJ7_fill_fda19 cJ7_fill_fda19 5 none ∈ g_ws := g_tb (i := 481) (by decide +kernel) (by decide)
theorem mw_J7_fill_fda19 : Cond.static yJ7_fill_fda19 ∈ g_ws := g_tb (i := 480) (by decide +kernel) (by decide)
theorem mk_X6_36 : g_MS RX6 36 yJ7_fill_fda19 cJ7_fill_fda19 5 none 4 := ⟨⟨g_tb (i := 479) (by decide +kernel) (by decide), ini_RJ7, cd_J7_fill_fda19, ⟨by decide, by decide⟩, by decide +kernel⟩, mw_J7_fill_fda19⟩
theorem in_X9 : ∀ w ∈ u_ws RX9 TX9 2, w ∈ g_ws := by decide +kernel
theorem ft_X9 : g_FT RX9 TX9 2 tyX9 := ⟨tyX9_ok, nmX9⟩
theorem fl_X9_15 : g_FL RX9 15 10 1 RX9 TX9 2 := ⟨rfl, by decide, in_X9, g_tb (i := 41) (by decide +kernel) (by decide), rfl⟩
theorem fl_X9_9 : g_FL RX9 9 10 0 RX9 TX9 2 := ⟨rfl, by decide, in_X9, g_tb (i := 40) (by decide +kernel) (by decide), rfl⟩
theorem ini_RX9 : Cond.initialized RX9 ∈ g_ws := g_tb (i := 2) (by decide +kernel) (by decide)
theorem cd_X9_isDigit : Cond.code yX9_isDigit cX9_isDigit 1 (some .boolean) ∈ g_ws := g_tb (i := 431) (by decide +kernel) (by decide)
theorem mw_X9_isDigit : Cond.static yX9_isDigit ∈ g_ws := g_tb (i := 430) (by decide +kernel) (by decide)
theorem mk_X9_19 : g_MS RX9 19 yX9_isDigit cX9_isDigit 1 (some .boolean) 1 := ⟨⟨g_tb (i := 429) (by decide +kernel) (by decide), ini_RX9, cd_X9_isDigit, ⟨by decide, by decide⟩, by decide +kernel⟩, mw_X9_isDigit⟩
theorem cd_X6_add : Cond.code yX6_add cX6_add 5 (some .int) ∈ g_ws := g_tb (i := 478) (by decide +kernel) (by decide)
theorem sl_X6_add : Cond.selects yX6_add.cls yX6_add yX6_add ∈ g_ws := g_tb (i := 477) (by decide +kernel) (by decide)
theorem mw_X6_add : Cond.instanceMethod yX6_add ∈ g_ws := g_tb (i := 476) (by decide +kernel) (by decide)
theorem mk_X9_27 : g_MV RX9 27 yX6_add cX6_add 5 (some .int) 2 := ⟨⟨g_tb (i := 475) (by decide +kernel) (by decide), ini_RX6, cd_X6_add, ⟨by decide, by decide⟩, by decide +kernel⟩, mw_X6_add, sl_X6_add⟩
theorem cd_X6_setColor : Cond.code yX6_setColor cX6_setColor 6 none ∈ g_ws := g_tb (i := 488) (by decide +kernel) (by decide)
theorem sl_X6_setColor : Cond.selects yX6_setColor.cls yX6_setColor yX6_setColor ∈ g_ws := g_tb (i := 487) (by decide +kernel) (by decide)
theorem mw_X6_setColor : Cond.instanceMethod yX6_setColor ∈ g_ws := g_tb (i := 486) (by decide +kernel) (by decide)
theorem mk_X9_33 : g_MV RX9 33 yX6_setColor cX6_setColor 6 none 4 := ⟨⟨g_tb (i := 485) (by decide +kernel) (by decide), ini_RX6, cd_X6_setColor, ⟨by decide, by decide⟩, by decide +kernel⟩, mw_X6_setColor, sl_X6_setColor⟩
theorem cd_X9_addImage : Cond.code yX9_addImage cX9_addImage 9 none ∈ g_ws := g_tb (i := 474) (by decide +kernel) (by decide)
theorem sl_X9_addImage : Cond.selects yX9_addImage.cls yX9_addImage yX9_addImage ∈ g_ws := g_sel (i := 0) (q := (yX9_addImage, 2)) (by decide +kernel) (by decide)
theorem mw_X9_addImage : Cond.instanceMethod yX9_addImage ∈ g_ws := g_tb (i := 473) (by decide +kernel) (by decide)
theorem mk_X9_23 : g_MV RX9 23 yX9_addImage cX9_addImage 9 none 3 := ⟨⟨g_tb (i := 471) (by decide +kernel) (by decide), ini_RX9, cd_X9_addImage, ⟨by decide, by decide⟩, by decide +kernel⟩, mw_X9_addImage, sl_X9_addImage⟩
theorem ini_RX10 : Cond.initialized RX10 ∈ g_ws := g_tb (i := 1) (by decide +kernel) (by decide)
theorem cd_X10_isWithin : Cond.code yX10_isWithin cX10_isWithin 3 (some .boolean) ∈ g_ws := g_tb (i := 412) (by decide +kernel) (by decide)
theorem mw_X10_isWithin : Cond.static yX10_isWithin ∈ g_ws := g_tb (i := 411) (by decide +kernel) (by decide)
theorem mk_X10_69 : g_MS RX10 69 yX10_isWithin cX10_isWithin 3 (some .boolean) 3 := ⟨⟨g_tb (i := 410) (by decide +kernel) (by decide), ini_RX10, cd_X10_isWithin, ⟨by decide, by decide⟩, by decide +kernel⟩, mw_X10_isWithin⟩
theorem in_X10 : ∀ w ∈ u_ws RX10 TX10 12, w ∈ g_ws := by decide +kernel
theorem ft_X10 : g_FT RX10 TX10 12 tyX10 := ⟨tyX10_ok, nmX10⟩
theorem fl_X10_12 : g_FL RX10 12 11 0 RX10 TX10 12 := ⟨rfl, by decide, in_X10, g_tb (i := 369) (by decide +kernel) (by decide), rfl⟩
theorem cd_X9_add : Cond.code yX9_add cX9_add 2 (some .boolean) ∈ g_ws := g_tb (i := 416) (by decide +kernel) (by decide)
theorem sl_X9_add : Cond.selects yX9_add.cls yX9_add yX9_add ∈ g_ws := g_tb (i := 415) (by decide +kernel) (by decide)
theorem mw_X9_add : Cond.instanceMethod yX9_add ∈ g_ws := g_tb (i := 414) (by decide +kernel) (by decide)
theorem mk_X10_73 : g_MV RX10 73 yX9_add cX9_add 2 (some .boolean) 1 := ⟨⟨g_tb (i := 413) (by decide +kernel) (by decide), ini_RX9, cd_X9_add, ⟨by decide, by decide⟩, by decide +kernel⟩, mw_X9_add, sl_X9_add⟩
theorem fl_X10_77 : g_FL RX10 77 10 1 RX9 TX9 2 := ⟨rfl, by decide, in_X9, g_tb (i := 42) (by decide +kernel) (by decide), rfl⟩
theorem cd_X9_findFault : Cond.code yX9_findFault cX9_findFault 7 (some .int) ∈ g_ws := g_tb (i := 428) (by decide +kernel) (by decide)
theorem sl_X9_findFault : Cond.selects yX9_findFault.cls yX9_findFault yX9_findFault ∈ g_ws := g_tb (i := 427) (by decide +kernel) (by decide)
theorem mw_X9_findFault : Cond.instanceMethod yX9_findFault ∈ g_ws := g_tb (i := 426) (by decide +kernel) (by decide)
theorem mk_X10_81 : g_MV RX10 81 yX9_findFault cX9_findFault 7 (some .int) 0 := ⟨⟨g_tb (i := 425) (by decide +kernel) (by decide), ini_RX9, cd_X9_findFault, ⟨by decide, by decide⟩, by decide +kernel⟩, mw_X9_findFault, sl_X9_findFault⟩
theorem fl_X10_47 : g_FL RX10 47 11 2 RX10 TX10 12 := ⟨rfl, by decide, in_X10, g_tb (i := 371) (by decide +kernel) (by decide), rfl⟩
theorem fl_X10_85 : g_FL RX10 85 9 0 RX8 TX8 3 := ⟨rfl, by decide, in_X8, g_tb (i := 228) (by decide +kernel) (by decide), rfl⟩
theorem fl_X10_89 : g_FL RX10 89 7 0 RX6 TX6 5 := ⟨rfl, by decide, in_X6, g_tb (i := 102) (by decide +kernel) (by decide), rfl⟩
theorem cd_X9_countImages : Cond.code yX9_countImages cX9_countImages 3 (some .int) ∈ g_ws := g_tb (i := 439) (by decide +kernel) (by decide)
theorem sl_X9_countImages : Cond.selects yX9_countImages.cls yX9_countImages yX9_countImages ∈ g_ws := g_tb (i := 438) (by decide +kernel) (by decide)
theorem mw_X9_countImages : Cond.instanceMethod yX9_countImages ∈ g_ws := g_tb (i := 437) (by decide +kernel) (by decide)
theorem mk_X10_94 : g_MV RX10 94 yX9_countImages cX9_countImages 3 (some .int) 0 := ⟨⟨g_tb (i := 436) (by decide +kernel) (by decide), ini_RX9, cd_X9_countImages, ⟨by decide, by decide⟩, by decide +kernel⟩, mw_X9_countImages, sl_X9_countImages⟩
theorem fl_X10_26 : g_FL RX10 26 11 7 RX10 TX10 12 := ⟨rfl, by decide, in_X10, g_tb (i := 376) (by decide +kernel) (by decide), rfl⟩
theorem ini_RX2 : Cond.initialized RX2 ∈ g_ws := g_tb (i := 7) (by decide +kernel) (by decide)
theorem cd_X2_record : Cond.code yX2_record cX2_record 3 none ∈ g_ws := g_tb (i := 443) (by decide +kernel) (by decide)
theorem sl_X2_record : Cond.selects yX2_record.cls yX2_record yX2_record ∈ g_ws := g_tb (i := 442) (by decide +kernel) (by decide)
theorem mw_X2_record : Cond.instanceMethod yX2_record ∈ g_ws := g_tb (i := 441) (by decide +kernel) (by decide)
theorem mk_X10_97 : g_MV RX10 97 yX2_record cX2_record 3 none 1 := ⟨⟨g_tb (i := 440) (by decide +kernel) (by decide), ini_RX2, cd_X2_record, ⟨by decide, by decide⟩, by decide +kernel⟩, mw_X2_record, sl_X2_record⟩
theorem cd_X9_addImagesTo : Cond.code yX9_addImagesTo cX9_addImagesTo 4 none ∈ g_ws := g_tb (i := 470) (by decide +kernel) (by decide)
theorem sl_X9_addImagesTo : Cond.selects yX9_addImagesTo.cls yX9_addImagesTo yX9_addImagesTo ∈ g_ws := g_tb (i := 469) (by decide +kernel) (by decide)
theorem mw_X9_addImagesTo : Cond.instanceMethod yX9_addImagesTo ∈ g_ws := g_tb (i := 468) (by decide +kernel) (by decide)
theorem mk_X10_101 : g_MV RX10 101 yX9_addImagesTo cX9_addImagesTo 4 none 1 := ⟨⟨g_tb (i := 467) (by decide +kernel) (by decide), ini_RX9, cd_X9_addImagesTo, ⟨by decide, by decide⟩, by decide +kernel⟩, mw_X9_addImagesTo, sl_X9_addImagesTo⟩
theorem fl_X10_53 : g_FL RX10 53 11 4 RX10 TX10 12 := ⟨rfl, by decide, in_X10, g_tb (i := 373) (by decide +kernel) (by decide), rfl⟩
theorem fl_X10_105 : g_FL RX10 105 9 1 RX8 TX8 3 := ⟨rfl, by decide, in_X8, g_tb (i := 231) (by decide +kernel) (by decide), rfl⟩
theorem cd_X0_study : Cond.code yX0_study cX0_study 4 none ∈ g_ws := g_tb (i := 500) (by decide +kernel) (by decide)
theorem sl_X0_study : Cond.selects yX0_study.cls yX0_study yX0_study ∈ g_ws := g_tb (i := 499) (by decide +kernel) (by decide)
theorem mw_X0_study : Cond.instanceMethod yX0_study ∈ g_ws := g_tb (i := 498) (by decide +kernel) (by decide)
theorem mk_X10_109 : g_MV RX10 109 yX0_study cX0_study 4 none 2 := ⟨⟨g_tb (i := 497) (by decide +kernel) (by decide), ini_RX0, cd_X0_study, ⟨by decide, by decide⟩, by decide +kernel⟩, mw_X0_study, sl_X0_study⟩
theorem fl_X10_113 : g_FL RX10 113 11 11 RX10 TX10 12 := ⟨rfl, by decide, in_X10, g_tb (i := 380) (by decide +kernel) (by decide), rfl⟩
theorem kc_X10_388 : Cond.constantLong RX10 388 (1103515245) ∈ g_ws := g_tb (i := 554) (by decide +kernel) (by decide)
theorem kc_X10_390 : Cond.constantLong RX10 390 (12345) ∈ g_ws := g_tb (i := 555) (by decide +kernel) (by decide)
theorem kc_X10_392 : Cond.constantLong RX10 392 (2147483648) ∈ g_ws := g_tb (i := 556) (by decide +kernel) (by decide)
theorem kc_X10_394 : Cond.constantLong RX10 394 (65536) ∈ g_ws := g_tb (i := 557) (by decide +kernel) (by decide)
theorem cd_X10_nextRandom : Cond.code yX10_nextRandom cX10_nextRandom 1 (some .int) ∈ g_ws := g_tb (i := 553) (by decide +kernel) (by decide)
theorem sl_X10_nextRandom : Cond.selects yX10_nextRandom.cls yX10_nextRandom yX10_nextRandom ∈ g_ws := g_sel (i := 6) (q := (yX10_nextRandom, 12)) (by decide +kernel) (by decide)
theorem mw_X10_nextRandom : Cond.instanceMethod yX10_nextRandom ∈ g_ws := g_tb (i := 552) (by decide +kernel) (by decide)
theorem mk_X10_396 : g_MV RX10 396 yX10_nextRandom cX10_nextRandom 1 (some .int) 0 := ⟨⟨g_tb (i := 550) (by decide +kernel) (by decide), ini_RX10, cd_X10_nextRandom, ⟨by decide, by decide⟩, by decide +kernel⟩, mw_X10_nextRandom, sl_X10_nextRandom⟩
theorem mk_X10_399 : g_MV RX10 399 yX6_add cX6_add 5 (some .int) 2 := ⟨⟨g_tb (i := 558) (by decide +kernel) (by decide), ini_RX6, cd_X6_add, ⟨by decide, by decide⟩, by decide +kernel⟩, mw_X6_add, sl_X6_add⟩
theorem mm_X10_378 : g_Mth RX10 378 Lib.Math.max.name Lib.Math.max.code := ⟨g_tb (i := 559) (by decide +kernel) (by decide), g_tb (i := 560) (by decide +kernel) (by decide), g_tb (i := 19) (by decide +kernel) (by decide), g_tb (i := 561) (by decide +kernel) (by decide)⟩
theorem mk_X10_137 : g_MV RX10 137 yX6_setColor cX6_setColor 6 none 4 := ⟨⟨g_tb (i := 562) (by decide +kernel) (by decide), ini_RX6, cd_X6_setColor, ⟨by decide, by decide⟩, by decide +kernel⟩, mw_X6_setColor, sl_X6_setColor⟩
theorem cd_X10_drawOne : Cond.code yX10_drawOne cX10_drawOne 6 none ∈ g_ws := g_tb (i := 549) (by decide +kernel) (by decide)
theorem sl_X10_drawOne : Cond.selects yX10_drawOne.cls yX10_drawOne yX10_drawOne ∈ g_ws := g_sel (i := 5) (q := (yX10_drawOne, 12)) (by decide +kernel) (by decide)
theorem mw_X10_drawOne : Cond.instanceMethod yX10_drawOne ∈ g_ws := g_tb (i := 548) (by decide +kernel) (by decide)
theorem mk_X10_117 : g_MV RX10 117 yX10_drawOne cX10_drawOne 6 none 0 := ⟨⟨g_tb (i := 546) (by decide +kernel) (by decide), ini_RX10, cd_X10_drawOne, ⟨by decide, by decide⟩, by decide +kernel⟩, mw_X10_drawOne, sl_X10_drawOne⟩
theorem mk_X10_120 : g_MV RX10 120 yX6_has cX6_has 2 (some .boolean) 1 := ⟨⟨g_tb (i := 571) (by decide +kernel) (by decide), ini_RX6, cd_X6_has, ⟨by decide, by decide⟩, by decide +kernel⟩, mw_X6_has, sl_X6_has⟩
theorem fl_X10_123 : g_FL RX10 123 7 1 RX6 TX6 5 := ⟨rfl, by decide, in_X6, g_tb (i := 106) (by decide +kernel) (by decide), rfl⟩
theorem fl_X10_127 : g_FL RX10 127 7 2 RX6 TX6 5 := ⟨rfl, by decide, in_X6, g_tb (i := 109) (by decide +kernel) (by decide), rfl⟩
theorem mk_X10_130 : g_MV RX10 130 yX6_hasPixel cX6_hasPixel 4 (some .boolean) 3 := ⟨⟨g_tb (i := 580) (by decide +kernel) (by decide), ini_RX6, cd_X6_hasPixel, ⟨by decide, by decide⟩, by decide +kernel⟩, mw_X6_hasPixel, sl_X6_hasPixel⟩
theorem mk_X10_133 : g_MV RX10 133 yX6_colorAt cX6_colorAt 5 (some .int) 3 := ⟨⟨g_tb (i := 581) (by decide +kernel) (by decide), ini_RX6, cd_X6_colorAt, ⟨by decide, by decide⟩, by decide +kernel⟩, mw_X6_colorAt, sl_X6_colorAt⟩
theorem fl_X10_214 : g_FL RX10 214 9 2 RX8 TX8 3 := ⟨rfl, by decide, in_X8, g_tb (i := 234) (by decide +kernel) (by decide), rfl⟩
theorem mk_X10_385 : g_MV RX10 385 yX4_removeAll cX4_removeAll 1 none 0 := ⟨⟨g_tb (i := 590) (by decide +kernel) (by decide), ini_RX4, cd_X4_removeAll, ⟨by decide, by decide⟩, by decide +kernel⟩, mw_X4_removeAll, sl_X4_removeAll⟩
theorem cd_X10_emptyAtlas : Cond.code yX10_emptyAtlas cX10_emptyAtlas 1 none ∈ g_ws := g_tb (i := 589) (by decide +kernel) (by decide)
theorem sl_X10_emptyAtlas : Cond.selects yX10_emptyAtlas.cls yX10_emptyAtlas yX10_emptyAtlas ∈ g_ws := g_sel (i := 7) (q := (yX10_emptyAtlas, 12)) (by decide +kernel) (by decide)
theorem mw_X10_emptyAtlas : Cond.instanceMethod yX10_emptyAtlas ∈ g_ws := g_tb (i := 588) (by decide +kernel) (by decide)
theorem mk_X10_141 : g_MV RX10 141 yX10_emptyAtlas cX10_emptyAtlas 1 none 0 := ⟨⟨g_tb (i := 586) (by decide +kernel) (by decide), ini_RX10, cd_X10_emptyAtlas, ⟨by decide, by decide⟩, by decide +kernel⟩, mw_X10_emptyAtlas, sl_X10_emptyAtlas⟩
theorem cd_X6_remove : Cond.code yX6_remove cX6_remove 4 none ∈ g_ws := g_tb (i := 601) (by decide +kernel) (by decide)
theorem sl_X6_remove : Cond.selects yX6_remove.cls yX6_remove yX6_remove ∈ g_ws := g_tb (i := 600) (by decide +kernel) (by decide)
theorem mw_X6_remove : Cond.instanceMethod yX6_remove ∈ g_ws := g_tb (i := 599) (by decide +kernel) (by decide)
theorem mk_X10_144 : g_MV RX10 144 yX6_remove cX6_remove 4 none 1 := ⟨⟨g_tb (i := 598) (by decide +kernel) (by decide), ini_RX6, cd_X6_remove, ⟨by decide, by decide⟩, by decide +kernel⟩, mw_X6_remove, sl_X6_remove⟩
theorem fl_X10_148 : g_FL RX10 148 7 3 RX6 TX6 5 := ⟨rfl, by decide, in_X6, g_tb (i := 112) (by decide +kernel) (by decide), rfl⟩
theorem fl_X10_151 : g_FL RX10 151 1 0 RX0 TX0 6 := ⟨rfl, by decide, in_X0, g_tb (i := 262) (by decide +kernel) (by decide), rfl⟩
theorem fl_X10_154 : g_FL RX10 154 1 1 RX0 TX0 6 := ⟨rfl, by decide, in_X0, g_tb (i := 264) (by decide +kernel) (by decide), rfl⟩
theorem fl_X10_157 : g_FL RX10 157 1 2 RX0 TX0 6 := ⟨rfl, by decide, in_X0, g_tb (i := 267) (by decide +kernel) (by decide), rfl⟩
theorem fl_X10_158 : g_FL RX10 158 1 3 RX0 TX0 6 := ⟨rfl, by decide, in_X0, g_tb (i := 270) (by decide +kernel) (by decide), rfl⟩
theorem fl_X10_159 : g_FL RX10 159 1 4 RX0 TX0 6 := ⟨rfl, by decide, in_X0, g_tb (i := 272) (by decide +kernel) (by decide), rfl⟩
theorem fl_X10_162 : g_FL RX10 162 1 5 RX0 TX0 6 := ⟨rfl, by decide, in_X0, g_tb (i := 274) (by decide +kernel) (by decide), rfl⟩
theorem fl_X10_165 : g_FL RX10 165 6 0 RX5 TX5 12 := ⟨rfl, by decide, in_X5, g_tb (i := 132) (by decide +kernel) (by decide), rfl⟩
theorem fl_X10_170 : g_FL RX10 170 6 1 RX5 TX5 12 := ⟨rfl, by decide, in_X5, g_tb (i := 134) (by decide +kernel) (by decide), rfl⟩
theorem fl_X10_173 : g_FL RX10 173 6 2 RX5 TX5 12 := ⟨rfl, by decide, in_X5, g_tb (i := 137) (by decide +kernel) (by decide), rfl⟩
theorem fl_X10_176 : g_FL RX10 176 6 3 RX5 TX5 12 := ⟨rfl, by decide, in_X5, g_tb (i := 139) (by decide +kernel) (by decide), rfl⟩
theorem fl_X10_179 : g_FL RX10 179 6 4 RX5 TX5 12 := ⟨rfl, by decide, in_X5, g_tb (i := 142) (by decide +kernel) (by decide), rfl⟩
theorem fl_X10_182 : g_FL RX10 182 6 5 RX5 TX5 12 := ⟨rfl, by decide, in_X5, g_tb (i := 145) (by decide +kernel) (by decide), rfl⟩
theorem fl_X10_185 : g_FL RX10 185 6 6 RX5 TX5 12 := ⟨rfl, by decide, in_X5, g_tb (i := 148) (by decide +kernel) (by decide), rfl⟩
theorem cd_X10_asNumber : Cond.code yX10_asNumber cX10_asNumber 1 (some .int) ∈ g_ws := g_tb (i := 652) (by decide +kernel) (by decide)
theorem mw_X10_asNumber : Cond.static yX10_asNumber ∈ g_ws := g_tb (i := 651) (by decide +kernel) (by decide)
theorem mk_X10_189 : g_MS RX10 189 yX10_asNumber cX10_asNumber 1 (some .int) 1 := ⟨⟨g_tb (i := 650) (by decide +kernel) (by decide), ini_RX10, cd_X10_asNumber, ⟨by decide, by decide⟩, by decide +kernel⟩, mw_X10_asNumber⟩
theorem fl_X10_193 : g_FL RX10 193 6 7 RX5 TX5 12 := ⟨rfl, by decide, in_X5, g_tb (i := 150) (by decide +kernel) (by decide), rfl⟩
theorem fl_X10_196 : g_FL RX10 196 6 8 RX5 TX5 12 := ⟨rfl, by decide, in_X5, g_tb (i := 153) (by decide +kernel) (by decide), rfl⟩
theorem fl_X10_199 : g_FL RX10 199 6 9 RX5 TX5 12 := ⟨rfl, by decide, in_X5, g_tb (i := 156) (by decide +kernel) (by decide), rfl⟩
theorem fl_X10_202 : g_FL RX10 202 6 10 RX5 TX5 12 := ⟨rfl, by decide, in_X5, g_tb (i := 159) (by decide +kernel) (by decide), rfl⟩
theorem fl_X10_205 : g_FL RX10 205 6 11 RX5 TX5 12 := ⟨rfl, by decide, in_X5, g_tb (i := 162) (by decide +kernel) (by decide), rfl⟩
theorem fl_X10_62 : g_FL RX10 62 11 5 RX10 TX10 12 := ⟨rfl, by decide, in_X10, g_tb (i := 374) (by decide +kernel) (by decide), rfl⟩
theorem cd_X3_placeAll : Cond.code yX3_placeAll cX3_placeAll 4 (some .int) ∈ g_ws := g_tb (i := 680) (by decide +kernel) (by decide)
theorem sl_X3_placeAll : Cond.selects yX3_placeAll.cls yX3_placeAll yX3_placeAll ∈ g_ws := g_tb (i := 679) (by decide +kernel) (by decide)
theorem mw_X3_placeAll : Cond.instanceMethod yX3_placeAll ∈ g_ws := g_tb (i := 678) (by decide +kernel) (by decide)
theorem mk_X10_208 : g_MV RX10 208 yX3_placeAll cX3_placeAll 4 (some .int) 0 := ⟨⟨g_tb (i := 677) (by decide +kernel) (by decide), ini_RX3, cd_X3_placeAll, ⟨by decide, by decide⟩, by decide +kernel⟩, mw_X3_placeAll, sl_X3_placeAll⟩
theorem mk_X10_211 : g_MV RX10 211 yX0_isOriginal cX0_isOriginal 2 (some .boolean) 1 := ⟨⟨g_tb (i := 822) (by decide +kernel) (by decide), ini_RX0, cd_X0_isOriginal, ⟨by decide, by decide⟩, by decide +kernel⟩, mw_X0_isOriginal, sl_X0_isOriginal⟩
theorem fl_X10_218 : g_FL RX10 218 5 2 RX4 TX4 6 := ⟨rfl, by decide, in_X4, g_tb (i := 204) (by decide +kernel) (by decide), rfl⟩
theorem mk_X10_223 : g_MV RX10 223 yX3_choose cX3_choose 3 (some .boolean) 1 := ⟨⟨g_tb (i := 823) (by decide +kernel) (by decide), ini_RX3, cd_X3_choose, ⟨by decide, by decide⟩, by decide +kernel⟩, mw_X3_choose, sl_X3_choose⟩
theorem mk_X10_226 : g_MV RX10 226 yX3_putAsChosen cX3_putAsChosen 4 none 1 := ⟨⟨g_tb (i := 824) (by decide +kernel) (by decide), ini_RX3, cd_X3_putAsChosen, ⟨by decide, by decide⟩, by decide +kernel⟩, mw_X3_putAsChosen, sl_X3_putAsChosen⟩
theorem mk_X10_229 : g_MV RX10 229 yX3_survey cX3_survey 5 none 1 := ⟨⟨g_tb (i := 829) (by decide +kernel) (by decide), ini_RX3, cd_X3_survey, ⟨by decide, by decide⟩, by decide +kernel⟩, mw_X3_survey, sl_X3_survey⟩
theorem fl_X10_259 : g_FL RX10 259 5 0 RX4 TX4 6 := ⟨rfl, by decide, in_X4, g_tb (i := 199) (by decide +kernel) (by decide), rfl⟩
theorem fl_X10_232 : g_FL RX10 232 3 2 RX2 TX2 3 := ⟨rfl, by decide, in_X2, g_tb (i := 245) (by decide +kernel) (by decide), rfl⟩
theorem cd_X2_takeBack : Cond.code yX2_takeBack cX2_takeBack 3 none ∈ g_ws := g_tb (i := 837) (by decide +kernel) (by decide)
theorem sl_X2_takeBack : Cond.selects yX2_takeBack.cls yX2_takeBack yX2_takeBack ∈ g_ws := g_tb (i := 836) (by decide +kernel) (by decide)
theorem mw_X2_takeBack : Cond.instanceMethod yX2_takeBack ∈ g_ws := g_tb (i := 835) (by decide +kernel) (by decide)
theorem mk_X10_233 : g_MV RX10 233 yX2_takeBack cX2_takeBack 3 none 1 := ⟨⟨g_tb (i := 834) (by decide +kernel) (by decide), ini_RX2, cd_X2_takeBack, ⟨by decide, by decide⟩, by decide +kernel⟩, mw_X2_takeBack, sl_X2_takeBack⟩
theorem cd_X10_studyAll : Cond.code yX10_studyAll cX10_studyAll 2 none ∈ g_ws := g_tb (i := 841) (by decide +kernel) (by decide)
theorem sl_X10_studyAll : Cond.selects yX10_studyAll.cls yX10_studyAll yX10_studyAll ∈ g_ws := g_sel (i := 19) (q := (yX10_studyAll, 12)) (by decide +kernel) (by decide)
theorem mw_X10_studyAll : Cond.instanceMethod yX10_studyAll ∈ g_ws := g_tb (i := 840) (by decide +kernel) (by decide)
theorem mk_X10_236 : g_MV RX10 236 yX10_studyAll cX10_studyAll 2 none 0 := ⟨⟨g_tb (i := 838) (by decide +kernel) (by decide), ini_RX10, cd_X10_studyAll, ⟨by decide, by decide⟩, by decide +kernel⟩, mw_X10_studyAll, sl_X10_studyAll⟩
theorem cd_X0_sourceOf : Cond.code yX0_sourceOf cX0_sourceOf 2 (some .int) ∈ g_ws := g_tb (i := 853) (by decide +kernel) (by decide)
theorem sl_X0_sourceOf : Cond.selects yX0_sourceOf.cls yX0_sourceOf yX0_sourceOf ∈ g_ws := g_tb (i := 852) (by decide +kernel) (by decide)
theorem mw_X0_sourceOf : Cond.instanceMethod yX0_sourceOf ∈ g_ws := g_tb (i := 851) (by decide +kernel) (by decide)
theorem mk_X10_243 : g_MV RX10 243 yX0_sourceOf cX0_sourceOf 2 (some .int) 1 := ⟨⟨g_tb (i := 850) (by decide +kernel) (by decide), ini_RX0, cd_X0_sourceOf, ⟨by decide, by decide⟩, by decide +kernel⟩, mw_X0_sourceOf, sl_X0_sourceOf⟩
theorem cd_X10_placeOf : Cond.code yX10_placeOf cX10_placeOf 3 (some .int) ∈ g_ws := g_tb (i := 849) (by decide +kernel) (by decide)
theorem sl_X10_placeOf : Cond.selects yX10_placeOf.cls yX10_placeOf yX10_placeOf ∈ g_ws := g_sel (i := 20) (q := (yX10_placeOf, 12)) (by decide +kernel) (by decide)
theorem mw_X10_placeOf : Cond.instanceMethod yX10_placeOf ∈ g_ws := g_tb (i := 848) (by decide +kernel) (by decide)
theorem mk_X10_239 : g_MV RX10 239 yX10_placeOf cX10_placeOf 3 (some .int) 1 := ⟨⟨g_tb (i := 846) (by decide +kernel) (by decide), ini_RX10, cd_X10_placeOf, ⟨by decide, by decide⟩, by decide +kernel⟩, mw_X10_placeOf, sl_X10_placeOf⟩
theorem mk_X10_246 : g_MV RX10 246 yX3_imageColumn cX3_imageColumn 2 (some .int) 1 := ⟨⟨g_tb (i := 858) (by decide +kernel) (by decide), ini_RX3, cd_X3_imageColumn, ⟨by decide, by decide⟩, by decide +kernel⟩, mw_X3_imageColumn, sl_X3_imageColumn⟩
theorem mk_X10_249 : g_MV RX10 249 yX3_imageRow cX3_imageRow 2 (some .int) 1 := ⟨⟨g_tb (i := 866) (by decide +kernel) (by decide), ini_RX3, cd_X3_imageRow, ⟨by decide, by decide⟩, by decide +kernel⟩, mw_X3_imageRow, sl_X3_imageRow⟩
theorem fl_X10_252 : g_FL RX10 252 5 5 RX4 TX4 6 := ⟨rfl, by decide, in_X4, g_tb (i := 211) (by decide +kernel) (by decide), rfl⟩
theorem cd_X0_findRecord : Cond.code yX0_findRecord cX0_findRecord 6 (some .int) ∈ g_ws := g_tb (i := 881) (by decide +kernel) (by decide)
theorem sl_X0_findRecord : Cond.selects yX0_findRecord.cls yX0_findRecord yX0_findRecord ∈ g_ws := g_tb (i := 880) (by decide +kernel) (by decide)
theorem mw_X0_findRecord : Cond.instanceMethod yX0_findRecord ∈ g_ws := g_tb (i := 879) (by decide +kernel) (by decide)
theorem mk_X10_255 : g_MV RX10 255 yX0_findRecord cX0_findRecord 6 (some .int) 4 := ⟨⟨g_tb (i := 878) (by decide +kernel) (by decide), ini_RX0, cd_X0_findRecord, ⟨by decide, by decide⟩, by decide +kernel⟩, mw_X0_findRecord, sl_X0_findRecord⟩
theorem cd_X10_hasPage : Cond.code yX10_hasPage cX10_hasPage 2 (some .boolean) ∈ g_ws := g_tb (i := 900) (by decide +kernel) (by decide)
theorem sl_X10_hasPage : Cond.selects yX10_hasPage.cls yX10_hasPage yX10_hasPage ∈ g_ws := g_sel (i := 22) (q := (yX10_hasPage, 12)) (by decide +kernel) (by decide)
theorem mw_X10_hasPage : Cond.instanceMethod yX10_hasPage ∈ g_ws := g_tb (i := 899) (by decide +kernel) (by decide)
theorem mk_X10_271 : g_MV RX10 271 yX10_hasPage cX10_hasPage 2 (some .boolean) 1 := ⟨⟨g_tb (i := 897) (by decide +kernel) (by decide), ini_RX10, cd_X10_hasPage, ⟨by decide, by decide⟩, by decide +kernel⟩, mw_X10_hasPage, sl_X10_hasPage⟩
theorem cd_X10_hasPagePixel : Cond.code yX10_hasPagePixel cX10_hasPagePixel 4 (some .boolean) ∈ g_ws := g_tb (i := 896) (by decide +kernel) (by decide)
theorem sl_X10_hasPagePixel : Cond.selects yX10_hasPagePixel.cls yX10_hasPagePixel yX10_hasPagePixel ∈ g_ws := g_sel (i := 21) (q := (yX10_hasPagePixel, 12)) (by decide +kernel) (by decide)
theorem mw_X10_hasPagePixel : Cond.instanceMethod yX10_hasPagePixel ∈ g_ws := g_tb (i := 895) (by decide +kernel) (by decide)
theorem mk_X10_262 : g_MV RX10 262 yX10_hasPagePixel cX10_hasPagePixel 4 (some .boolean) 3 := ⟨⟨g_tb (i := 893) (by decide +kernel) (by decide), ini_RX10, cd_X10_hasPagePixel, ⟨by decide, by decide⟩, by decide +kernel⟩, mw_X10_hasPagePixel, sl_X10_hasPagePixel⟩
theorem cd_X3_colorOn : Cond.code yX3_colorOn cX3_colorOn 7 (some .int) ∈ g_ws := g_tb (i := 904) (by decide +kernel) (by decide)
theorem sl_X3_colorOn : Cond.selects yX3_colorOn.cls yX3_colorOn yX3_colorOn ∈ g_ws := g_tb (i := 903) (by decide +kernel) (by decide)
theorem mw_X3_colorOn : Cond.instanceMethod yX3_colorOn ∈ g_ws := g_tb (i := 902) (by decide +kernel) (by decide)
theorem mk_X10_265 : g_MV RX10 265 yX3_colorOn cX3_colorOn 7 (some .int) 3 := ⟨⟨g_tb (i := 901) (by decide +kernel) (by decide), ini_RX3, cd_X3_colorOn, ⟨by decide, by decide⟩, by decide +kernel⟩, mw_X3_colorOn, sl_X3_colorOn⟩
theorem mk_X10_268 : g_MV RX10 268 yX3_ownerOf cX3_ownerOf 8 (some .int) 3 := ⟨⟨g_tb (i := 924) (by decide +kernel) (by decide), ini_RX3, cd_X3_ownerOf, ⟨by decide, by decide⟩, by decide +kernel⟩, mw_X3_ownerOf, sl_X3_ownerOf⟩
theorem cd_X3_usedColumns : Cond.code yX3_usedColumns cX3_usedColumns 4 (some .int) ∈ g_ws := g_tb (i := 932) (by decide +kernel) (by decide)
theorem sl_X3_usedColumns : Cond.selects yX3_usedColumns.cls yX3_usedColumns yX3_usedColumns ∈ g_ws := g_tb (i := 931) (by decide +kernel) (by decide)
theorem mw_X3_usedColumns : Cond.instanceMethod yX3_usedColumns ∈ g_ws := g_tb (i := 930) (by decide +kernel) (by decide)
theorem mk_X10_274 : g_MV RX10 274 yX3_usedColumns cX3_usedColumns 4 (some .int) 1 := ⟨⟨g_tb (i := 929) (by decide +kernel) (by decide), ini_RX3, cd_X3_usedColumns, ⟨by decide, by decide⟩, by decide +kernel⟩, mw_X3_usedColumns, sl_X3_usedColumns⟩
theorem cd_X3_usedRows : Cond.code yX3_usedRows cX3_usedRows 4 (some .int) ∈ g_ws := g_tb (i := 940) (by decide +kernel) (by decide)
theorem sl_X3_usedRows : Cond.selects yX3_usedRows.cls yX3_usedRows yX3_usedRows ∈ g_ws := g_tb (i := 939) (by decide +kernel) (by decide)
theorem mw_X3_usedRows : Cond.instanceMethod yX3_usedRows ∈ g_ws := g_tb (i := 938) (by decide +kernel) (by decide)
theorem mk_X10_277 : g_MV RX10 277 yX3_usedRows cX3_usedRows 4 (some .int) 1 := ⟨⟨g_tb (i := 937) (by decide +kernel) (by decide), ini_RX3, cd_X3_usedRows, ⟨by decide, by decide⟩, by decide +kernel⟩, mw_X3_usedRows, sl_X3_usedRows⟩
theorem fl_X10_280 : g_FL RX10 280 4 2 RX3 TX3 5 := ⟨rfl, by decide, in_X3, g_tb (i := 355) (by decide +kernel) (by decide), rfl⟩
theorem fl_X10_284 : g_FL RX10 284 8 4 RX7 TX7 5 := ⟨rfl, by decide, in_X7, g_tb (i := 306) (by decide +kernel) (by decide), rfl⟩
theorem cd_X10_hasFree : Cond.code yX10_hasFree cX10_hasFree 3 (some .boolean) ∈ g_ws := g_tb (i := 952) (by decide +kernel) (by decide)
theorem sl_X10_hasFree : Cond.selects yX10_hasFree.cls yX10_hasFree yX10_hasFree ∈ g_ws := g_sel (i := 25) (q := (yX10_hasFree, 12)) (by decide +kernel) (by decide)
theorem mw_X10_hasFree : Cond.instanceMethod yX10_hasFree ∈ g_ws := g_tb (i := 951) (by decide +kernel) (by decide)
theorem mk_X10_289 : g_MV RX10 289 yX10_hasFree cX10_hasFree 3 (some .boolean) 2 := ⟨⟨g_tb (i := 949) (by decide +kernel) (by decide), ini_RX10, cd_X10_hasFree, ⟨by decide, by decide⟩, by decide +kernel⟩, mw_X10_hasFree, sl_X10_hasFree⟩
theorem mk_X10_293 : g_MV RX10 293 yX7_codeOf cX7_codeOf 3 (some .int) 2 := ⟨⟨g_tb (i := 953) (by decide +kernel) (by decide), ini_RX7, cd_X7_codeOf, ⟨by decide, by decide⟩, by decide +kernel⟩, mw_X7_codeOf, sl_X7_codeOf⟩
theorem mk_X10_297 : g_MS RX10 297 yX7_leftIn cX7_leftIn 1 (some .int) 1 := ⟨⟨g_tb (i := 954) (by decide +kernel) (by decide), ini_RX7, cd_X7_leftIn, ⟨by decide, by decide⟩, by decide +kernel⟩, mw_X7_leftIn⟩
theorem mk_X10_300 : g_MS RX10 300 yX7_topIn cX7_topIn 1 (some .int) 1 := ⟨⟨g_tb (i := 959) (by decide +kernel) (by decide), ini_RX7, cd_X7_topIn, ⟨by decide, by decide⟩, by decide +kernel⟩, mw_X7_topIn⟩
theorem mk_X10_303 : g_MS RX10 303 yX7_widthIn cX7_widthIn 1 (some .int) 1 := ⟨⟨g_tb (i := 964) (by decide +kernel) (by decide), ini_RX7, cd_X7_widthIn, ⟨by decide, by decide⟩, by decide +kernel⟩, mw_X7_widthIn⟩
theorem mk_X10_306 : g_MS RX10 306 yX7_heightIn cX7_heightIn 1 (some .int) 1 := ⟨⟨g_tb (i := 969) (by decide +kernel) (by decide), ini_RX7, cd_X7_heightIn, ⟨by decide, by decide⟩, by decide +kernel⟩, mw_X7_heightIn⟩
theorem cd_X3_imagePixels : Cond.code yX3_imagePixels cX3_imagePixels 4 (some .int) ∈ g_ws := g_tb (i := 977) (by decide +kernel) (by decide)
theorem sl_X3_imagePixels : Cond.selects yX3_imagePixels.cls yX3_imagePixels yX3_imagePixels ∈ g_ws := g_tb (i := 976) (by decide +kernel) (by decide)
theorem mw_X3_imagePixels : Cond.instanceMethod yX3_imagePixels ∈ g_ws := g_tb (i := 975) (by decide +kernel) (by decide)
theorem mk_X10_309 : g_MV RX10 309 yX3_imagePixels cX3_imagePixels 4 (some .int) 1 := ⟨⟨g_tb (i := 974) (by decide +kernel) (by decide), ini_RX3, cd_X3_imagePixels, ⟨by decide, by decide⟩, by decide +kernel⟩, mw_X3_imagePixels, sl_X3_imagePixels⟩
theorem cd_X10_commonDivisor : Cond.code yX10_commonDivisor cX10_commonDivisor 6 (some .int) ∈ g_ws := g_tb (i := 980) (by decide +kernel) (by decide)
theorem mw_X10_commonDivisor : Cond.static yX10_commonDivisor ∈ g_ws := g_tb (i := 979) (by decide +kernel) (by decide)
theorem mk_X10_312 : g_MS RX10 312 yX10_commonDivisor cX10_commonDivisor 6 (some .int) 2 := ⟨⟨g_tb (i := 978) (by decide +kernel) (by decide), ini_RX10, cd_X10_commonDivisor, ⟨by decide, by decide⟩, by decide +kernel⟩, mw_X10_commonDivisor⟩
theorem cd_X3_boxPositions : Cond.code yX3_boxPositions cX3_boxPositions 3 (some .int) ∈ g_ws := g_tb (i := 992) (by decide +kernel) (by decide)
theorem sl_X3_boxPositions : Cond.selects yX3_boxPositions.cls yX3_boxPositions yX3_boxPositions ∈ g_ws := g_tb (i := 991) (by decide +kernel) (by decide)
theorem mw_X3_boxPositions : Cond.instanceMethod yX3_boxPositions ∈ g_ws := g_tb (i := 990) (by decide +kernel) (by decide)
theorem mk_X10_315 : g_MV RX10 315 yX3_boxPositions cX3_boxPositions 3 (some .int) 0 := ⟨⟨g_tb (i := 989) (by decide +kernel) (by decide), ini_RX3, cd_X3_boxPositions, ⟨by decide, by decide⟩, by decide +kernel⟩, mw_X3_boxPositions, sl_X3_boxPositions⟩
theorem mk_X10_318 : g_MV RX10 318 yX5_fieldPositions cX5_fieldPositions 1 (some .int) 0 := ⟨⟨g_tb (i := 993) (by decide +kernel) (by decide), ini_RX5, cd_X5_fieldPositions, ⟨by decide, by decide⟩, by decide +kernel⟩, mw_X5_fieldPositions, sl_X5_fieldPositions⟩
theorem fl_X10_50 : g_FL RX10 50 11 3 RX10 TX10 12 := ⟨rfl, by decide, in_X10, g_tb (i := 372) (by decide +kernel) (by decide), rfl⟩
theorem fl_X10_66 : g_FL RX10 66 11 6 RX10 TX10 12 := ⟨rfl, by decide, in_X10, g_tb (i := 375) (by decide +kernel) (by decide), rfl⟩
theorem kc_X10_401 : Cond.constantLong RX10 401 (10) ∈ g_ws := g_tb (i := 1004) (by decide +kernel) (by decide)
theorem kc_X10_403 : Cond.constantLong RX10 403 (10000) ∈ g_ws := g_tb (i := 1005) (by decide +kernel) (by decide)
theorem mk_X10_321 : g_MV RX10 321 yX8_copyFrom cX8_copyFrom 2 none 1 := ⟨⟨g_tb (i := 998) (by decide +kernel) (by decide), ini_RX8, cd_X8_copyFrom, ⟨by decide, by decide⟩, by decide +kernel⟩, mw_X8_copyFrom, sl_X8_copyFrom⟩
theorem kc_X10_324 : Cond.constantLong RX10 324 (1000000000) ∈ g_ws := g_tb (i := 999) (by decide +kernel) (by decide)
theorem cd_X10_packingCost : Cond.code yX10_packingCost cX10_packingCost 5 (some .long) ∈ g_ws := g_tb (i := 1003) (by decide +kernel) (by decide)
theorem sl_X10_packingCost : Cond.selects yX10_packingCost.cls yX10_packingCost yX10_packingCost ∈ g_ws := g_sel (i := 26) (q := (yX10_packingCost, 12)) (by decide +kernel) (by decide)
theorem mw_X10_packingCost : Cond.instanceMethod yX10_packingCost ∈ g_ws := g_tb (i := 1002) (by decide +kernel) (by decide)
theorem mk_X10_326 : g_MV RX10 326 yX10_packingCost cX10_packingCost 5 (some .long) 1 := ⟨⟨g_tb (i := 1000) (by decide +kernel) (by decide), ini_RX10, cd_X10_packingCost, ⟨by decide, by decide⟩, by decide +kernel⟩, mw_X10_packingCost, sl_X10_packingCost⟩
theorem fl_X10_19 : g_FL RX10 19 11 1 RX10 TX10 12 := ⟨rfl, by decide, in_X10, g_tb (i := 370) (by decide +kernel) (by decide), rfl⟩
theorem fl_X10_33 : g_FL RX10 33 11 8 RX10 TX10 12 := ⟨rfl, by decide, in_X10, g_tb (i := 377) (by decide +kernel) (by decide), rfl⟩
theorem fl_X10_37 : g_FL RX10 37 11 9 RX10 TX10 12 := ⟨rfl, by decide, in_X10, g_tb (i := 378) (by decide +kernel) (by decide), rfl⟩
theorem fl_X10_40 : g_FL RX10 40 11 10 RX10 TX10 12 := ⟨rfl, by decide, in_X10, g_tb (i := 379) (by decide +kernel) (by decide), rfl⟩
theorem cd_X10_slotState : Cond.code yX10_slotState cX10_slotState 2 (some (.object "SpriteAtlas$State")) ∈ g_ws := g_tb (i := 1238) (by decide +kernel) (by decide)
theorem sl_X10_slotState : Cond.selects yX10_slotState.cls yX10_slotState yX10_slotState ∈ g_ws := g_sel (i := 28) (q := (yX10_slotState, 12)) (by decide +kernel) (by decide)
theorem mw_X10_slotState : Cond.instanceMethod yX10_slotState ∈ g_ws := g_tb (i := 1237) (by decide +kernel) (by decide)
theorem mk_X10_361 : g_MV RX10 361 yX10_slotState cX10_slotState 2 (some (.object "SpriteAtlas$State")) 1 := ⟨⟨g_tb (i := 1235) (by decide +kernel) (by decide), ini_RX10, cd_X10_slotState, ⟨by decide, by decide⟩, by decide +kernel⟩, mw_X10_slotState, sl_X10_slotState⟩
theorem kc_X10_383 : Cond.constantLong RX10 383 (31) ∈ g_ws := g_tb (i := 1251) (by decide +kernel) (by decide)
theorem cd_X10_width : Cond.code yX10_width cX10_width 2 (some .int) ∈ g_ws := g_tb (i := 570) (by decide +kernel) (by decide)
theorem sl_X10_width : Cond.selects yX10_width.cls yX10_width yX10_width ∈ g_ws := g_tb (i := 569) (by decide +kernel) (by decide)
theorem mw_X10_width : Cond.instanceMethod yX10_width ∈ g_ws := g_tb (i := 568) (by decide +kernel) (by decide)
theorem mk_X10_425 : g_MV RX10 425 yX10_width cX10_width 2 (some .int) 1 := ⟨⟨g_tb (i := 1256) (by decide +kernel) (by decide), ini_RX10, cd_X10_width, ⟨by decide, by decide⟩, by decide +kernel⟩, mw_X10_width, sl_X10_width⟩
theorem cd_X10_mix : Cond.code yX10_mix cX10_mix 4 (some .long) ∈ g_ws := g_tb (i := 1250) (by decide +kernel) (by decide)
theorem mw_X10_mix : Cond.static yX10_mix ∈ g_ws := g_tb (i := 1249) (by decide +kernel) (by decide)
theorem mk_X10_367 : g_MS RX10 367 yX10_mix cX10_mix 4 (some .long) 2 := ⟨⟨g_tb (i := 1248) (by decide +kernel) (by decide), ini_RX10, cd_X10_mix, ⟨by decide, by decide⟩, by decide +kernel⟩, mw_X10_mix⟩
theorem cd_X10_height : Cond.code yX10_height cX10_height 2 (some .int) ∈ g_ws := g_tb (i := 575) (by decide +kernel) (by decide)
theorem sl_X10_height : Cond.selects yX10_height.cls yX10_height yX10_height ∈ g_ws := g_tb (i := 574) (by decide +kernel) (by decide)
theorem mw_X10_height : Cond.instanceMethod yX10_height ∈ g_ws := g_tb (i := 573) (by decide +kernel) (by decide)
theorem mk_X10_428 : g_MV RX10 428 yX10_height cX10_height 2 (some .int) 1 := ⟨⟨g_tb (i := 1257) (by decide +kernel) (by decide), ini_RX10, cd_X10_height, ⟨by decide, by decide⟩, by decide +kernel⟩, mw_X10_height, sl_X10_height⟩
theorem cd_X10_groupOf : Cond.code yX10_groupOf cX10_groupOf 2 (some .int) ∈ g_ws := g_tb (i := 609) (by decide +kernel) (by decide)
theorem sl_X10_groupOf : Cond.selects yX10_groupOf.cls yX10_groupOf yX10_groupOf ∈ g_ws := g_tb (i := 608) (by decide +kernel) (by decide)
theorem mw_X10_groupOf : Cond.instanceMethod yX10_groupOf ∈ g_ws := g_tb (i := 607) (by decide +kernel) (by decide)
theorem mk_X10_434 : g_MV RX10 434 yX10_groupOf cX10_groupOf 2 (some .int) 1 := ⟨⟨g_tb (i := 1259) (by decide +kernel) (by decide), ini_RX10, cd_X10_groupOf, ⟨by decide, by decide⟩, by decide +kernel⟩, mw_X10_groupOf, sl_X10_groupOf⟩
theorem cd_X10_trimLeft : Cond.code yX10_trimLeft cX10_trimLeft 2 (some .int) ∈ g_ws := g_tb (i := 613) (by decide +kernel) (by decide)
theorem sl_X10_trimLeft : Cond.selects yX10_trimLeft.cls yX10_trimLeft yX10_trimLeft ∈ g_ws := g_tb (i := 612) (by decide +kernel) (by decide)
theorem mw_X10_trimLeft : Cond.instanceMethod yX10_trimLeft ∈ g_ws := g_tb (i := 611) (by decide +kernel) (by decide)
theorem mk_X10_437 : g_MV RX10 437 yX10_trimLeft cX10_trimLeft 2 (some .int) 1 := ⟨⟨g_tb (i := 1260) (by decide +kernel) (by decide), ini_RX10, cd_X10_trimLeft, ⟨by decide, by decide⟩, by decide +kernel⟩, mw_X10_trimLeft, sl_X10_trimLeft⟩
theorem cd_X10_trimTop : Cond.code yX10_trimTop cX10_trimTop 2 (some .int) ∈ g_ws := g_tb (i := 617) (by decide +kernel) (by decide)
theorem sl_X10_trimTop : Cond.selects yX10_trimTop.cls yX10_trimTop yX10_trimTop ∈ g_ws := g_tb (i := 616) (by decide +kernel) (by decide)
theorem mw_X10_trimTop : Cond.instanceMethod yX10_trimTop ∈ g_ws := g_tb (i := 615) (by decide +kernel) (by decide)
theorem mk_X10_440 : g_MV RX10 440 yX10_trimTop cX10_trimTop 2 (some .int) 1 := ⟨⟨g_tb (i := 1261) (by decide +kernel) (by decide), ini_RX10, cd_X10_trimTop, ⟨by decide, by decide⟩, by decide +kernel⟩, mw_X10_trimTop, sl_X10_trimTop⟩
theorem cd_X10_trimWidth : Cond.code yX10_trimWidth cX10_trimWidth 2 (some .int) ∈ g_ws := g_tb (i := 621) (by decide +kernel) (by decide)
theorem sl_X10_trimWidth : Cond.selects yX10_trimWidth.cls yX10_trimWidth yX10_trimWidth ∈ g_ws := g_tb (i := 620) (by decide +kernel) (by decide)
theorem mw_X10_trimWidth : Cond.instanceMethod yX10_trimWidth ∈ g_ws := g_tb (i := 619) (by decide +kernel) (by decide)
theorem mk_X10_443 : g_MV RX10 443 yX10_trimWidth cX10_trimWidth 2 (some .int) 1 := ⟨⟨g_tb (i := 1262) (by decide +kernel) (by decide), ini_RX10, cd_X10_trimWidth, ⟨by decide, by decide⟩, by decide +kernel⟩, mw_X10_trimWidth, sl_X10_trimWidth⟩
theorem cd_X10_trimHeight : Cond.code yX10_trimHeight cX10_trimHeight 2 (some .int) ∈ g_ws := g_tb (i := 625) (by decide +kernel) (by decide)
theorem sl_X10_trimHeight : Cond.selects yX10_trimHeight.cls yX10_trimHeight yX10_trimHeight ∈ g_ws := g_tb (i := 624) (by decide +kernel) (by decide)
theorem mw_X10_trimHeight : Cond.instanceMethod yX10_trimHeight ∈ g_ws := g_tb (i := 623) (by decide +kernel) (by decide)
theorem mk_X10_446 : g_MV RX10 446 yX10_trimHeight cX10_trimHeight 2 (some .int) 1 := ⟨⟨g_tb (i := 1263) (by decide +kernel) (by decide), ini_RX10, cd_X10_trimHeight, ⟨by decide, by decide⟩, by decide +kernel⟩, mw_X10_trimHeight, sl_X10_trimHeight⟩
theorem cd_X10_originalOf : Cond.code yX10_originalOf cX10_originalOf 2 (some .int) ∈ g_ws := g_tb (i := 629) (by decide +kernel) (by decide)
theorem sl_X10_originalOf : Cond.selects yX10_originalOf.cls yX10_originalOf yX10_originalOf ∈ g_ws := g_tb (i := 628) (by decide +kernel) (by decide)
theorem mw_X10_originalOf : Cond.instanceMethod yX10_originalOf ∈ g_ws := g_tb (i := 627) (by decide +kernel) (by decide)
theorem mk_X10_449 : g_MV RX10 449 yX10_originalOf cX10_originalOf 2 (some .int) 1 := ⟨⟨g_tb (i := 1264) (by decide +kernel) (by decide), ini_RX10, cd_X10_originalOf, ⟨by decide, by decide⟩, by decide +kernel⟩, mw_X10_originalOf, sl_X10_originalOf⟩
theorem cd_X10_orientationOf : Cond.code yX10_orientationOf cX10_orientationOf 2 (some .int) ∈ g_ws := g_tb (i := 633) (by decide +kernel) (by decide)
theorem sl_X10_orientationOf : Cond.selects yX10_orientationOf.cls yX10_orientationOf yX10_orientationOf ∈ g_ws := g_tb (i := 632) (by decide +kernel) (by decide)
theorem mw_X10_orientationOf : Cond.instanceMethod yX10_orientationOf ∈ g_ws := g_tb (i := 631) (by decide +kernel) (by decide)
theorem mk_X10_452 : g_MV RX10 452 yX10_orientationOf cX10_orientationOf 2 (some .int) 1 := ⟨⟨g_tb (i := 1265) (by decide +kernel) (by decide), ini_RX10, cd_X10_orientationOf, ⟨by decide, by decide⟩, by decide +kernel⟩, mw_X10_orientationOf, sl_X10_orientationOf⟩
theorem cd_X10_pageOf : Cond.code yX10_pageOf cX10_pageOf 2 (some .int) ∈ g_ws := g_tb (i := 845) (by decide +kernel) (by decide)
theorem sl_X10_pageOf : Cond.selects yX10_pageOf.cls yX10_pageOf yX10_pageOf ∈ g_ws := g_tb (i := 844) (by decide +kernel) (by decide)
theorem mw_X10_pageOf : Cond.instanceMethod yX10_pageOf ∈ g_ws := g_tb (i := 843) (by decide +kernel) (by decide)
theorem mk_X10_407 : g_MV RX10 407 yX10_pageOf cX10_pageOf 2 (some .int) 1 := ⟨⟨g_tb (i := 1200) (by decide +kernel) (by decide), ini_RX10, cd_X10_pageOf, ⟨by decide, by decide⟩, by decide +kernel⟩, mw_X10_pageOf, sl_X10_pageOf⟩
theorem cd_X10_xOf : Cond.code yX10_xOf cX10_xOf 2 (some .int) ∈ g_ws := g_tb (i := 857) (by decide +kernel) (by decide)
theorem sl_X10_xOf : Cond.selects yX10_xOf.cls yX10_xOf yX10_xOf ∈ g_ws := g_tb (i := 856) (by decide +kernel) (by decide)
theorem mw_X10_xOf : Cond.instanceMethod yX10_xOf ∈ g_ws := g_tb (i := 855) (by decide +kernel) (by decide)
theorem mk_X10_412 : g_MV RX10 412 yX10_xOf cX10_xOf 2 (some .int) 1 := ⟨⟨g_tb (i := 1202) (by decide +kernel) (by decide), ini_RX10, cd_X10_xOf, ⟨by decide, by decide⟩, by decide +kernel⟩, mw_X10_xOf, sl_X10_xOf⟩
theorem cd_X10_yOf : Cond.code yX10_yOf cX10_yOf 2 (some .int) ∈ g_ws := g_tb (i := 865) (by decide +kernel) (by decide)
theorem sl_X10_yOf : Cond.selects yX10_yOf.cls yX10_yOf yX10_yOf ∈ g_ws := g_tb (i := 864) (by decide +kernel) (by decide)
theorem mw_X10_yOf : Cond.instanceMethod yX10_yOf ∈ g_ws := g_tb (i := 863) (by decide +kernel) (by decide)
theorem mk_X10_415 : g_MV RX10 415 yX10_yOf cX10_yOf 2 (some .int) 1 := ⟨⟨g_tb (i := 1203) (by decide +kernel) (by decide), ini_RX10, cd_X10_yOf, ⟨by decide, by decide⟩, by decide +kernel⟩, mw_X10_yOf, sl_X10_yOf⟩
theorem cd_X10_isTurned : Cond.code yX10_isTurned cX10_isTurned 2 (some .int) ∈ g_ws := g_tb (i := 873) (by decide +kernel) (by decide)
theorem sl_X10_isTurned : Cond.selects yX10_isTurned.cls yX10_isTurned yX10_isTurned ∈ g_ws := g_tb (i := 872) (by decide +kernel) (by decide)
theorem mw_X10_isTurned : Cond.instanceMethod yX10_isTurned ∈ g_ws := g_tb (i := 871) (by decide +kernel) (by decide)
theorem mk_X10_455 : g_MV RX10 455 yX10_isTurned cX10_isTurned 2 (some .int) 1 := ⟨⟨g_tb (i := 1266) (by decide +kernel) (by decide), ini_RX10, cd_X10_isTurned, ⟨by decide, by decide⟩, by decide +kernel⟩, mw_X10_isTurned, sl_X10_isTurned⟩
theorem cd_X10_recordOf : Cond.code yX10_recordOf cX10_recordOf 3 (some .int) ∈ g_ws := g_tb (i := 877) (by decide +kernel) (by decide)
theorem sl_X10_recordOf : Cond.selects yX10_recordOf.cls yX10_recordOf yX10_recordOf ∈ g_ws := g_tb (i := 876) (by decide +kernel) (by decide)
theorem mw_X10_recordOf : Cond.instanceMethod yX10_recordOf ∈ g_ws := g_tb (i := 875) (by decide +kernel) (by decide)
theorem mk_X10_422 : g_MV RX10 422 yX10_recordOf cX10_recordOf 3 (some .int) 1 := ⟨⟨g_tb (i := 1206) (by decide +kernel) (by decide), ini_RX10, cd_X10_recordOf, ⟨by decide, by decide⟩, by decide +kernel⟩, mw_X10_recordOf, sl_X10_recordOf⟩
theorem cd_X10_color : Cond.code yX10_color cX10_color 4 (some .int) ∈ g_ws := g_tb (i := 579) (by decide +kernel) (by decide)
theorem sl_X10_color : Cond.selects yX10_color.cls yX10_color yX10_color ∈ g_ws := g_tb (i := 578) (by decide +kernel) (by decide)
theorem mw_X10_color : Cond.instanceMethod yX10_color ∈ g_ws := g_tb (i := 577) (by decide +kernel) (by decide)
theorem mk_X10_431 : g_MV RX10 431 yX10_color cX10_color 4 (some .int) 3 := ⟨⟨g_tb (i := 1258) (by decide +kernel) (by decide), ini_RX10, cd_X10_color, ⟨by decide, by decide⟩, by decide +kernel⟩, mw_X10_color, sl_X10_color⟩
theorem cd_X10_usedWidth : Cond.code yX10_usedWidth cX10_usedWidth 2 (some .int) ∈ g_ws := g_tb (i := 928) (by decide +kernel) (by decide)
theorem sl_X10_usedWidth : Cond.selects yX10_usedWidth.cls yX10_usedWidth yX10_usedWidth ∈ g_ws := g_tb (i := 927) (by decide +kernel) (by decide)
theorem mw_X10_usedWidth : Cond.instanceMethod yX10_usedWidth ∈ g_ws := g_tb (i := 926) (by decide +kernel) (by decide)
theorem mk_X10_458 : g_MV RX10 458 yX10_usedWidth cX10_usedWidth 2 (some .int) 1 := ⟨⟨g_tb (i := 1271) (by decide +kernel) (by decide), ini_RX10, cd_X10_usedWidth, ⟨by decide, by decide⟩, by decide +kernel⟩, mw_X10_usedWidth, sl_X10_usedWidth⟩
theorem cd_X10_usedHeight : Cond.code yX10_usedHeight cX10_usedHeight 2 (some .int) ∈ g_ws := g_tb (i := 936) (by decide +kernel) (by decide)
theorem sl_X10_usedHeight : Cond.selects yX10_usedHeight.cls yX10_usedHeight yX10_usedHeight ∈ g_ws := g_tb (i := 935) (by decide +kernel) (by decide)
theorem mw_X10_usedHeight : Cond.instanceMethod yX10_usedHeight ∈ g_ws := g_tb (i := 934) (by decide +kernel) (by decide)
theorem mk_X10_461 : g_MV RX10 461 yX10_usedHeight cX10_usedHeight 2 (some .int) 1 := ⟨⟨g_tb (i := 1272) (by decide +kernel) (by decide), ini_RX10, cd_X10_usedHeight, ⟨by decide, by decide⟩, by decide +kernel⟩, mw_X10_usedHeight, sl_X10_usedHeight⟩
theorem cd_X10_freeRectangles : Cond.code yX10_freeRectangles cX10_freeRectangles 2 (some .int) ∈ g_ws := g_tb (i := 944) (by decide +kernel) (by decide)
theorem sl_X10_freeRectangles : Cond.selects yX10_freeRectangles.cls yX10_freeRectangles yX10_freeRectangles ∈ g_ws := g_tb (i := 943) (by decide +kernel) (by decide)
theorem mw_X10_freeRectangles : Cond.instanceMethod yX10_freeRectangles ∈ g_ws := g_tb (i := 942) (by decide +kernel) (by decide)
theorem mk_X10_464 : g_MV RX10 464 yX10_freeRectangles cX10_freeRectangles 2 (some .int) 1 := ⟨⟨g_tb (i := 1273) (by decide +kernel) (by decide), ini_RX10, cd_X10_freeRectangles, ⟨by decide, by decide⟩, by decide +kernel⟩, mw_X10_freeRectangles, sl_X10_freeRectangles⟩
theorem kc_X10_365 : Cond.constantLong RX10 365 (19) ∈ g_ws := g_tb (i := 1247) (by decide +kernel) (by decide)
theorem cd_X10_mixSprite : Cond.code yX10_mixSprite cX10_mixSprite 8 (some .long) ∈ g_ws := g_tb (i := 1255) (by decide +kernel) (by decide)
theorem sl_X10_mixSprite : Cond.selects yX10_mixSprite.cls yX10_mixSprite yX10_mixSprite ∈ g_ws := g_sel (i := 29) (q := (yX10_mixSprite, 12)) (by decide +kernel) (by decide)
theorem mw_X10_mixSprite : Cond.instanceMethod yX10_mixSprite ∈ g_ws := g_tb (i := 1254) (by decide +kernel) (by decide)
theorem mk_X10_371 : g_MV RX10 371 yX10_mixSprite cX10_mixSprite 8 (some .long) 2 := ⟨⟨g_tb (i := 1252) (by decide +kernel) (by decide), ini_RX10, cd_X10_mixSprite, ⟨by decide, by decide⟩, by decide +kernel⟩, mw_X10_mixSprite, sl_X10_mixSprite⟩
theorem cd_X10_mixPage : Cond.code yX10_mixPage cX10_mixPage 8 (some .long) ∈ g_ws := g_tb (i := 1270) (by decide +kernel) (by decide)
theorem sl_X10_mixPage : Cond.selects yX10_mixPage.cls yX10_mixPage yX10_mixPage ∈ g_ws := g_sel (i := 30) (q := (yX10_mixPage, 12)) (by decide +kernel) (by decide)
theorem mw_X10_mixPage : Cond.instanceMethod yX10_mixPage ∈ g_ws := g_tb (i := 1269) (by decide +kernel) (by decide)
theorem mk_X10_375 : g_MV RX10 375 yX10_mixPage cX10_mixPage 8 (some .long) 2 := ⟨⟨g_tb (i := 1267) (by decide +kernel) (by decide), ini_RX10, cd_X10_mixPage, ⟨by decide, by decide⟩, by decide +kernel⟩, mw_X10_mixPage, sl_X10_mixPage⟩
theorem in_X11 : ∀ w ∈ u_ws RX11 TX11 38, w ∈ g_ws := by decide +kernel
theorem ft_X11 : g_FT RX11 TX11 38 tyX11 := ⟨tyX11_ok, nmX11⟩
theorem fl_X11_7 : g_FL RX11 7 12 0 RX11 TX11 38 := ⟨rfl, by decide, in_X11, g_tb (i := 1280) (by decide +kernel) (by decide), rfl⟩
theorem ini_RX11 : Cond.initialized RX11 ∈ g_ws := g_tb (i := 17) (by decide +kernel) (by decide)
theorem cd_X11_in : Cond.code yX11_in cX11_in 3 (some .boolean) ∈ g_ws := g_tb (i := 1405) (by decide +kernel) (by decide)
theorem mw_X11_in : Cond.static yX11_in ∈ g_ws := g_tb (i := 1404) (by decide +kernel) (by decide)
theorem mk_X11_86 : g_MS RX11 86 yX11_in cX11_in 3 (some .boolean) 3 := ⟨⟨g_tb (i := 1403) (by decide +kernel) (by decide), ini_RX11, cd_X11_in, ⟨by decide, by decide⟩, by decide +kernel⟩, mw_X11_in⟩
theorem fl_X11_90 : g_FL RX11 90 12 3 RX11 TX11 38 := ⟨rfl, by decide, in_X11, g_tb (i := 1283) (by decide +kernel) (by decide), rfl⟩
theorem fl_X11_16 : g_FL RX11 16 12 2 RX11 TX11 38 := ⟨rfl, by decide, in_X11, g_tb (i := 1282) (by decide +kernel) (by decide), rfl⟩
theorem cd_X11_at : Cond.code yX11_at cX11_at 2 (some .int) ∈ g_ws := g_tb (i := 1432) (by decide +kernel) (by decide)
theorem mw_X11_at : Cond.static yX11_at ∈ g_ws := g_tb (i := 1431) (by decide +kernel) (by decide)
theorem mk_X11_94 : g_MS RX11 94 yX11_at cX11_at 2 (some .int) 2 := ⟨⟨g_tb (i := 1430) (by decide +kernel) (by decide), ini_RX11, cd_X11_at, ⟨by decide, by decide⟩, by decide +kernel⟩, mw_X11_at⟩
theorem cd_X11_notes : Cond.code yX11_notes cX11_notes 2 none ∈ g_ws := g_tb (i := 1425) (by decide +kernel) (by decide)
theorem sl_X11_notes : Cond.selects yX11_notes.cls yX11_notes yX11_notes ∈ g_ws := g_sel (i := 32) (q := (yX11_notes, 38)) (by decide +kernel) (by decide)
theorem mw_X11_notes : Cond.instanceMethod yX11_notes ∈ g_ws := g_tb (i := 1424) (by decide +kernel) (by decide)
theorem mk_X11_98 : g_MV RX11 98 yX11_notes cX11_notes 2 none 0 := ⟨⟨g_tb (i := 1422) (by decide +kernel) (by decide), ini_RX11, cd_X11_notes, ⟨by decide, by decide⟩, by decide +kernel⟩, mw_X11_notes, sl_X11_notes⟩
theorem cd_X11_empties : Cond.code yX11_empties cX11_empties 2 none ∈ g_ws := g_tb (i := 1483) (by decide +kernel) (by decide)
theorem sl_X11_empties : Cond.selects yX11_empties.cls yX11_empties yX11_empties ∈ g_ws := g_sel (i := 38) (q := (yX11_empties, 38)) (by decide +kernel) (by decide)
theorem mw_X11_empties : Cond.instanceMethod yX11_empties ∈ g_ws := g_tb (i := 1482) (by decide +kernel) (by decide)
theorem mk_X11_101 : g_MV RX11 101 yX11_empties cX11_empties 2 none 0 := ⟨⟨g_tb (i := 1480) (by decide +kernel) (by decide), ini_RX11, cd_X11_empties, ⟨by decide, by decide⟩, by decide +kernel⟩, mw_X11_empties, sl_X11_empties⟩
theorem fl_X11_104 : g_FL RX11 104 12 7 RX11 TX11 38 := ⟨rfl, by decide, in_X11, g_tb (i := 1287) (by decide +kernel) (by decide), rfl⟩
theorem fl_X11_26 : g_FL RX11 26 12 6 RX11 TX11 38 := ⟨rfl, by decide, in_X11, g_tb (i := 1286) (by decide +kernel) (by decide), rfl⟩
theorem fl_X11_107 : g_FL RX11 107 12 10 RX11 TX11 38 := ⟨rfl, by decide, in_X11, g_tb (i := 1290) (by decide +kernel) (by decide), rfl⟩
theorem cd_X11_faultOf : Cond.code yX11_faultOf cX11_faultOf 7 (some .int) ∈ g_ws := g_tb (i := 1417) (by decide +kernel) (by decide)
theorem sl_X11_faultOf : Cond.selects yX11_faultOf.cls yX11_faultOf yX11_faultOf ∈ g_ws := g_sel (i := 31) (q := (yX11_faultOf, 38)) (by decide +kernel) (by decide)
theorem mw_X11_faultOf : Cond.instanceMethod yX11_faultOf ∈ g_ws := g_tb (i := 1416) (by decide +kernel) (by decide)
theorem mk_X11_110 : g_MV RX11 110 yX11_faultOf cX11_faultOf 7 (some .int) 0 := ⟨⟨g_tb (i := 1414) (by decide +kernel) (by decide), ini_RX11, cd_X11_faultOf, ⟨by decide, by decide⟩, by decide +kernel⟩, mw_X11_faultOf, sl_X11_faultOf⟩
theorem cd_X11_adds : Cond.code yX11_adds cX11_adds 5 none ∈ g_ws := g_tb (i := 1429) (by decide +kernel) (by decide)
theorem sl_X11_adds : Cond.selects yX11_adds.cls yX11_adds yX11_adds ∈ g_ws := g_sel (i := 33) (q := (yX11_adds, 38)) (by decide +kernel) (by decide)
theorem mw_X11_adds : Cond.instanceMethod yX11_adds ∈ g_ws := g_tb (i := 1428) (by decide +kernel) (by decide)
theorem mk_X11_114 : g_MV RX11 114 yX11_adds cX11_adds 5 none 2 := ⟨⟨g_tb (i := 1426) (by decide +kernel) (by decide), ini_RX11, cd_X11_adds, ⟨by decide, by decide⟩, by decide +kernel⟩, mw_X11_adds, sl_X11_adds⟩
theorem cd_X11_pixelAt : Cond.code yX11_pixelAt cX11_pixelAt 3 (some .int) ∈ g_ws := g_tb (i := 1435) (by decide +kernel) (by decide)
theorem mw_X11_pixelAt : Cond.static yX11_pixelAt ∈ g_ws := g_tb (i := 1434) (by decide +kernel) (by decide)
theorem mk_X11_118 : g_MS RX11 118 yX11_pixelAt cX11_pixelAt 3 (some .int) 3 := ⟨⟨g_tb (i := 1433) (by decide +kernel) (by decide), ini_RX11, cd_X11_pixelAt, ⟨by decide, by decide⟩, by decide +kernel⟩, mw_X11_pixelAt⟩
theorem fl_X11_122 : g_FL RX11 122 12 11 RX11 TX11 38 := ⟨rfl, by decide, in_X11, g_tb (i := 1291) (by decide +kernel) (by decide), rfl⟩
theorem kc_X11_126 : Cond.constantLong RX11 126 (1103515245) ∈ g_ws := g_tb (i := 1444) (by decide +kernel) (by decide)
theorem kc_X11_128 : Cond.constantLong RX11 128 (12345) ∈ g_ws := g_tb (i := 1445) (by decide +kernel) (by decide)
theorem kc_X11_130 : Cond.constantLong RX11 130 (2147483648) ∈ g_ws := g_tb (i := 1446) (by decide +kernel) (by decide)
theorem kc_X11_132 : Cond.constantLong RX11 132 (65536) ∈ g_ws := g_tb (i := 1447) (by decide +kernel) (by decide)
theorem cd_X11_random : Cond.code yX11_random cX11_random 2 (some .int) ∈ g_ws := g_tb (i := 1443) (by decide +kernel) (by decide)
theorem sl_X11_random : Cond.selects yX11_random.cls yX11_random yX11_random ∈ g_ws := g_sel (i := 34) (q := (yX11_random, 38)) (by decide +kernel) (by decide)
theorem mw_X11_random : Cond.instanceMethod yX11_random ∈ g_ws := g_tb (i := 1442) (by decide +kernel) (by decide)
theorem mk_X11_134 : g_MV RX11 134 yX11_random cX11_random 2 (some .int) 1 := ⟨⟨g_tb (i := 1440) (by decide +kernel) (by decide), ini_RX11, cd_X11_random, ⟨by decide, by decide⟩, by decide +kernel⟩, mw_X11_random, sl_X11_random⟩
theorem cd_X11_isSprite : Cond.code yX11_isSprite cX11_isSprite 2 (some .boolean) ∈ g_ws := g_tb (i := 1459) (by decide +kernel) (by decide)
theorem sl_X11_isSprite : Cond.selects yX11_isSprite.cls yX11_isSprite yX11_isSprite ∈ g_ws := g_sel (i := 35) (q := (yX11_isSprite, 38)) (by decide +kernel) (by decide)
theorem mw_X11_isSprite : Cond.instanceMethod yX11_isSprite ∈ g_ws := g_tb (i := 1458) (by decide +kernel) (by decide)
theorem mk_X11_138 : g_MV RX11 138 yX11_isSprite cX11_isSprite 2 (some .boolean) 1 := ⟨⟨g_tb (i := 1456) (by decide +kernel) (by decide), ini_RX11, cd_X11_isSprite, ⟨by decide, by decide⟩, by decide +kernel⟩, mw_X11_isSprite, sl_X11_isSprite⟩
theorem cd_X11_isPixel : Cond.code yX11_isPixel cX11_isPixel 4 (some .boolean) ∈ g_ws := g_tb (i := 1471) (by decide +kernel) (by decide)
theorem sl_X11_isPixel : Cond.selects yX11_isPixel.cls yX11_isPixel yX11_isPixel ∈ g_ws := g_sel (i := 36) (q := (yX11_isPixel, 38)) (by decide +kernel) (by decide)
theorem mw_X11_isPixel : Cond.instanceMethod yX11_isPixel ∈ g_ws := g_tb (i := 1470) (by decide +kernel) (by decide)
theorem mk_X11_142 : g_MV RX11 142 yX11_isPixel cX11_isPixel 4 (some .boolean) 3 := ⟨⟨g_tb (i := 1468) (by decide +kernel) (by decide), ini_RX11, cd_X11_isPixel, ⟨by decide, by decide⟩, by decide +kernel⟩, mw_X11_isPixel, sl_X11_isPixel⟩
theorem cd_X11_sets : Cond.code yX11_sets cX11_sets 4 (some .int) ∈ g_ws := g_tb (i := 1479) (by decide +kernel) (by decide)
theorem sl_X11_sets : Cond.selects yX11_sets.cls yX11_sets yX11_sets ∈ g_ws := g_sel (i := 37) (q := (yX11_sets, 38)) (by decide +kernel) (by decide)
theorem mw_X11_sets : Cond.instanceMethod yX11_sets ∈ g_ws := g_tb (i := 1478) (by decide +kernel) (by decide)
theorem mk_X11_145 : g_MV RX11 145 yX11_sets cX11_sets 4 (some .int) 2 := ⟨⟨g_tb (i := 1476) (by decide +kernel) (by decide), ini_RX11, cd_X11_sets, ⟨by decide, by decide⟩, by decide +kernel⟩, mw_X11_sets, sl_X11_sets⟩
theorem fl_X11_32 : g_FL RX11 32 12 12 RX11 TX11 38 := ⟨rfl, by decide, in_X11, g_tb (i := 1292) (by decide +kernel) (by decide), rfl⟩
theorem fl_X11_35 : g_FL RX11 35 12 13 RX11 TX11 38 := ⟨rfl, by decide, in_X11, g_tb (i := 1293) (by decide +kernel) (by decide), rfl⟩
theorem fl_X11_38 : g_FL RX11 38 12 14 RX11 TX11 38 := ⟨rfl, by decide, in_X11, g_tb (i := 1294) (by decide +kernel) (by decide), rfl⟩
theorem fl_X11_41 : g_FL RX11 41 12 15 RX11 TX11 38 := ⟨rfl, by decide, in_X11, g_tb (i := 1295) (by decide +kernel) (by decide), rfl⟩
theorem fl_X11_148 : g_FL RX11 148 12 18 RX11 TX11 38 := ⟨rfl, by decide, in_X11, g_tb (i := 1298) (by decide +kernel) (by decide), rfl⟩
theorem fl_X11_151 : g_FL RX11 151 12 19 RX11 TX11 38 := ⟨rfl, by decide, in_X11, g_tb (i := 1299) (by decide +kernel) (by decide), rfl⟩
theorem cd_X11_turnsBack : Cond.code yX11_turnsBack cX11_turnsBack 9 none ∈ g_ws := g_tb (i := 1527) (by decide +kernel) (by decide)
theorem sl_X11_turnsBack : Cond.selects yX11_turnsBack.cls yX11_turnsBack yX11_turnsBack ∈ g_ws := g_sel (i := 45) (q := (yX11_turnsBack, 38)) (by decide +kernel) (by decide)
theorem mw_X11_turnsBack : Cond.instanceMethod yX11_turnsBack ∈ g_ws := g_tb (i := 1526) (by decide +kernel) (by decide)
theorem mk_X11_154 : g_MV RX11 154 yX11_turnsBack cX11_turnsBack 9 none 5 := ⟨⟨g_tb (i := 1524) (by decide +kernel) (by decide), ini_RX11, cd_X11_turnsBack, ⟨by decide, by decide⟩, by decide +kernel⟩, mw_X11_turnsBack, sl_X11_turnsBack⟩
theorem cd_X11_colorBy : Cond.code yX11_colorBy cX11_colorBy 6 (some .int) ∈ g_ws := g_tb (i := 1523) (by decide +kernel) (by decide)
theorem sl_X11_colorBy : Cond.selects yX11_colorBy.cls yX11_colorBy yX11_colorBy ∈ g_ws := g_sel (i := 44) (q := (yX11_colorBy, 38)) (by decide +kernel) (by decide)
theorem mw_X11_colorBy : Cond.instanceMethod yX11_colorBy ∈ g_ws := g_tb (i := 1522) (by decide +kernel) (by decide)
theorem mk_X11_158 : g_MV RX11 158 yX11_colorBy cX11_colorBy 6 (some .int) 5 := ⟨⟨g_tb (i := 1520) (by decide +kernel) (by decide), ini_RX11, cd_X11_colorBy, ⟨by decide, by decide⟩, by decide +kernel⟩, mw_X11_colorBy, sl_X11_colorBy⟩
theorem fl_X11_44 : g_FL RX11 44 12 16 RX11 TX11 38 := ⟨rfl, by decide, in_X11, g_tb (i := 1296) (by decide +kernel) (by decide), rfl⟩
theorem fl_X11_47 : g_FL RX11 47 12 17 RX11 TX11 38 := ⟨rfl, by decide, in_X11, g_tb (i := 1297) (by decide +kernel) (by decide), rfl⟩
theorem cd_X11_orientations : Cond.code yX11_orientations cX11_orientations 1 (some .int) ∈ g_ws := g_tb (i := 1515) (by decide +kernel) (by decide)
theorem sl_X11_orientations : Cond.selects yX11_orientations.cls yX11_orientations yX11_orientations ∈ g_ws := g_sel (i := 42) (q := (yX11_orientations, 38)) (by decide +kernel) (by decide)
theorem mw_X11_orientations : Cond.instanceMethod yX11_orientations ∈ g_ws := g_tb (i := 1514) (by decide +kernel) (by decide)
theorem mk_X11_162 : g_MV RX11 162 yX11_orientations cX11_orientations 1 (some .int) 0 := ⟨⟨g_tb (i := 1512) (by decide +kernel) (by decide), ini_RX11, cd_X11_orientations, ⟨by decide, by decide⟩, by decide +kernel⟩, mw_X11_orientations, sl_X11_orientations⟩
theorem cd_X11_isLike : Cond.code yX11_isLike cX11_isLike 9 (some .boolean) ∈ g_ws := g_tb (i := 1519) (by decide +kernel) (by decide)
theorem sl_X11_isLike : Cond.selects yX11_isLike.cls yX11_isLike yX11_isLike ∈ g_ws := g_sel (i := 43) (q := (yX11_isLike, 38)) (by decide +kernel) (by decide)
theorem mw_X11_isLike : Cond.instanceMethod yX11_isLike ∈ g_ws := g_tb (i := 1518) (by decide +kernel) (by decide)
theorem mk_X11_165 : g_MV RX11 165 yX11_isLike cX11_isLike 9 (some .boolean) 4 := ⟨⟨g_tb (i := 1516) (by decide +kernel) (by decide), ini_RX11, cd_X11_isLike, ⟨by decide, by decide⟩, by decide +kernel⟩, mw_X11_isLike, sl_X11_isLike⟩
theorem cd_X11_trims : Cond.code yX11_trims cX11_trims 10 none ∈ g_ws := g_tb (i := 1507) (by decide +kernel) (by decide)
theorem sl_X11_trims : Cond.selects yX11_trims.cls yX11_trims yX11_trims ∈ g_ws := g_sel (i := 40) (q := (yX11_trims, 38)) (by decide +kernel) (by decide)
theorem mw_X11_trims : Cond.instanceMethod yX11_trims ∈ g_ws := g_tb (i := 1506) (by decide +kernel) (by decide)
theorem mk_X11_169 : g_MV RX11 169 yX11_trims cX11_trims 10 none 1 := ⟨⟨g_tb (i := 1504) (by decide +kernel) (by decide), ini_RX11, cd_X11_trims, ⟨by decide, by decide⟩, by decide +kernel⟩, mw_X11_trims, sl_X11_trims⟩
theorem cd_X11_seeks : Cond.code yX11_seeks cX11_seeks 4 none ∈ g_ws := g_tb (i := 1511) (by decide +kernel) (by decide)
theorem sl_X11_seeks : Cond.selects yX11_seeks.cls yX11_seeks yX11_seeks ∈ g_ws := g_sel (i := 41) (q := (yX11_seeks, 38)) (by decide +kernel) (by decide)
theorem mw_X11_seeks : Cond.instanceMethod yX11_seeks ∈ g_ws := g_tb (i := 1510) (by decide +kernel) (by decide)
theorem mk_X11_173 : g_MV RX11 173 yX11_seeks cX11_seeks 4 none 1 := ⟨⟨g_tb (i := 1508) (by decide +kernel) (by decide), ini_RX11, cd_X11_seeks, ⟨by decide, by decide⟩, by decide +kernel⟩, mw_X11_seeks, sl_X11_seeks⟩
theorem cd_X11_knows : Cond.code yX11_knows cX11_knows 2 none ∈ g_ws := g_tb (i := 1503) (by decide +kernel) (by decide)
theorem sl_X11_knows : Cond.selects yX11_knows.cls yX11_knows yX11_knows ∈ g_ws := g_sel (i := 39) (q := (yX11_knows, 38)) (by decide +kernel) (by decide)
theorem mw_X11_knows : Cond.instanceMethod yX11_knows ∈ g_ws := g_tb (i := 1502) (by decide +kernel) (by decide)
theorem mk_X11_176 : g_MV RX11 176 yX11_knows cX11_knows 2 none 0 := ⟨⟨g_tb (i := 1500) (by decide +kernel) (by decide), ini_RX11, cd_X11_knows, ⟨by decide, by decide⟩, by decide +kernel⟩, mw_X11_knows, sl_X11_knows⟩
theorem cd_X11_imageWidth : Cond.code yX11_imageWidth cX11_imageWidth 3 (some .int) ∈ g_ws := g_tb (i := 1619) (by decide +kernel) (by decide)
theorem sl_X11_imageWidth : Cond.selects yX11_imageWidth.cls yX11_imageWidth yX11_imageWidth ∈ g_ws := g_sel (i := 53) (q := (yX11_imageWidth, 38)) (by decide +kernel) (by decide)
theorem mw_X11_imageWidth : Cond.instanceMethod yX11_imageWidth ∈ g_ws := g_tb (i := 1618) (by decide +kernel) (by decide)
theorem mk_X11_179 : g_MV RX11 179 yX11_imageWidth cX11_imageWidth 3 (some .int) 2 := ⟨⟨g_tb (i := 1616) (by decide +kernel) (by decide), ini_RX11, cd_X11_imageWidth, ⟨by decide, by decide⟩, by decide +kernel⟩, mw_X11_imageWidth, sl_X11_imageWidth⟩
theorem cd_X11_imageHeight : Cond.code yX11_imageHeight cX11_imageHeight 3 (some .int) ∈ g_ws := g_tb (i := 1627) (by decide +kernel) (by decide)
theorem sl_X11_imageHeight : Cond.selects yX11_imageHeight.cls yX11_imageHeight yX11_imageHeight ∈ g_ws := g_sel (i := 55) (q := (yX11_imageHeight, 38)) (by decide +kernel) (by decide)
theorem mw_X11_imageHeight : Cond.instanceMethod yX11_imageHeight ∈ g_ws := g_tb (i := 1626) (by decide +kernel) (by decide)
theorem mk_X11_182 : g_MV RX11 182 yX11_imageHeight cX11_imageHeight 3 (some .int) 2 := ⟨⟨g_tb (i := 1624) (by decide +kernel) (by decide), ini_RX11, cd_X11_imageHeight, ⟨by decide, by decide⟩, by decide +kernel⟩, mw_X11_imageHeight, sl_X11_imageHeight⟩
theorem fl_X11_185 : g_FL RX11 185 12 20 RX11 TX11 38 := ⟨rfl, by decide, in_X11, g_tb (i := 1300) (by decide +kernel) (by decide), rfl⟩
theorem fl_X11_53 : g_FL RX11 53 12 22 RX11 TX11 38 := ⟨rfl, by decide, in_X11, g_tb (i := 1302) (by decide +kernel) (by decide), rfl⟩
theorem fl_X11_50 : g_FL RX11 50 12 21 RX11 TX11 38 := ⟨rfl, by decide, in_X11, g_tb (i := 1301) (by decide +kernel) (by decide), rfl⟩
theorem fl_X11_56 : g_FL RX11 56 12 23 RX11 TX11 38 := ⟨rfl, by decide, in_X11, g_tb (i := 1303) (by decide +kernel) (by decide), rfl⟩
theorem cd_X11_boxWidth : Cond.code yX11_boxWidth cX11_boxWidth 3 (some .int) ∈ g_ws := g_tb (i := 1615) (by decide +kernel) (by decide)
theorem sl_X11_boxWidth : Cond.selects yX11_boxWidth.cls yX11_boxWidth yX11_boxWidth ∈ g_ws := g_sel (i := 52) (q := (yX11_boxWidth, 38)) (by decide +kernel) (by decide)
theorem mw_X11_boxWidth : Cond.instanceMethod yX11_boxWidth ∈ g_ws := g_tb (i := 1614) (by decide +kernel) (by decide)
theorem mk_X11_188 : g_MV RX11 188 yX11_boxWidth cX11_boxWidth 3 (some .int) 2 := ⟨⟨g_tb (i := 1612) (by decide +kernel) (by decide), ini_RX11, cd_X11_boxWidth, ⟨by decide, by decide⟩, by decide +kernel⟩, mw_X11_boxWidth, sl_X11_boxWidth⟩
theorem fl_X11_59 : g_FL RX11 59 12 24 RX11 TX11 38 := ⟨rfl, by decide, in_X11, g_tb (i := 1304) (by decide +kernel) (by decide), rfl⟩
theorem cd_X11_boxHeight : Cond.code yX11_boxHeight cX11_boxHeight 3 (some .int) ∈ g_ws := g_tb (i := 1623) (by decide +kernel) (by decide)
theorem sl_X11_boxHeight : Cond.selects yX11_boxHeight.cls yX11_boxHeight yX11_boxHeight ∈ g_ws := g_sel (i := 54) (q := (yX11_boxHeight, 38)) (by decide +kernel) (by decide)
theorem mw_X11_boxHeight : Cond.instanceMethod yX11_boxHeight ∈ g_ws := g_tb (i := 1622) (by decide +kernel) (by decide)
theorem mk_X11_191 : g_MV RX11 191 yX11_boxHeight cX11_boxHeight 3 (some .int) 2 := ⟨⟨g_tb (i := 1620) (by decide +kernel) (by decide), ini_RX11, cd_X11_boxHeight, ⟨by decide, by decide⟩, by decide +kernel⟩, mw_X11_boxHeight, sl_X11_boxHeight⟩
theorem fl_X11_65 : g_FL RX11 65 12 27 RX11 TX11 38 := ⟨rfl, by decide, in_X11, g_tb (i := 1307) (by decide +kernel) (by decide), rfl⟩
theorem fl_X11_62 : g_FL RX11 62 12 26 RX11 TX11 38 := ⟨rfl, by decide, in_X11, g_tb (i := 1306) (by decide +kernel) (by decide), rfl⟩
theorem fl_X11_68 : g_FL RX11 68 12 28 RX11 TX11 38 := ⟨rfl, by decide, in_X11, g_tb (i := 1308) (by decide +kernel) (by decide), rfl⟩
theorem cd_X11_isHeld : Cond.code yX11_isHeld cX11_isHeld 6 (some .boolean) ∈ g_ws := g_tb (i := 1655) (by decide +kernel) (by decide)
theorem sl_X11_isHeld : Cond.selects yX11_isHeld.cls yX11_isHeld yX11_isHeld ∈ g_ws := g_sel (i := 62) (q := (yX11_isHeld, 38)) (by decide +kernel) (by decide)
theorem mw_X11_isHeld : Cond.instanceMethod yX11_isHeld ∈ g_ws := g_tb (i := 1654) (by decide +kernel) (by decide)
theorem mk_X11_194 : g_MV RX11 194 yX11_isHeld cX11_isHeld 6 (some .boolean) 3 := ⟨⟨g_tb (i := 1652) (by decide +kernel) (by decide), ini_RX11, cd_X11_isHeld, ⟨by decide, by decide⟩, by decide +kernel⟩, mw_X11_isHeld, sl_X11_isHeld⟩
theorem cd_X11_fieldWidth : Cond.code yX11_fieldWidth cX11_fieldWidth 1 (some .int) ∈ g_ws := g_tb (i := 1639) (by decide +kernel) (by decide)
theorem sl_X11_fieldWidth : Cond.selects yX11_fieldWidth.cls yX11_fieldWidth yX11_fieldWidth ∈ g_ws := g_sel (i := 58) (q := (yX11_fieldWidth, 38)) (by decide +kernel) (by decide)
theorem mw_X11_fieldWidth : Cond.instanceMethod yX11_fieldWidth ∈ g_ws := g_tb (i := 1638) (by decide +kernel) (by decide)
theorem mk_X11_197 : g_MV RX11 197 yX11_fieldWidth cX11_fieldWidth 1 (some .int) 0 := ⟨⟨g_tb (i := 1636) (by decide +kernel) (by decide), ini_RX11, cd_X11_fieldWidth, ⟨by decide, by decide⟩, by decide +kernel⟩, mw_X11_fieldWidth, sl_X11_fieldWidth⟩
theorem fl_X11_200 : g_FL RX11 200 12 25 RX11 TX11 38 := ⟨rfl, by decide, in_X11, g_tb (i := 1305) (by decide +kernel) (by decide), rfl⟩
theorem cd_X11_isBehind : Cond.code yX11_isBehind cX11_isBehind 5 (some .boolean) ∈ g_ws := g_tb (i := 1659) (by decide +kernel) (by decide)
theorem sl_X11_isBehind : Cond.selects yX11_isBehind.cls yX11_isBehind yX11_isBehind ∈ g_ws := g_sel (i := 63) (q := (yX11_isBehind, 38)) (by decide +kernel) (by decide)
theorem mw_X11_isBehind : Cond.instanceMethod yX11_isBehind ∈ g_ws := g_tb (i := 1658) (by decide +kernel) (by decide)
theorem mk_X11_203 : g_MV RX11 203 yX11_isBehind cX11_isBehind 5 (some .boolean) 4 := ⟨⟨g_tb (i := 1656) (by decide +kernel) (by decide), ini_RX11, cd_X11_isBehind, ⟨by decide, by decide⟩, by decide +kernel⟩, mw_X11_isBehind, sl_X11_isBehind⟩
theorem fl_X11_71 : g_FL RX11 71 12 29 RX11 TX11 38 := ⟨rfl, by decide, in_X11, g_tb (i := 1309) (by decide +kernel) (by decide), rfl⟩
theorem cd_X11_fieldHeight : Cond.code yX11_fieldHeight cX11_fieldHeight 1 (some .int) ∈ g_ws := g_tb (i := 1643) (by decide +kernel) (by decide)
theorem sl_X11_fieldHeight : Cond.selects yX11_fieldHeight.cls yX11_fieldHeight yX11_fieldHeight ∈ g_ws := g_sel (i := 59) (q := (yX11_fieldHeight, 38)) (by decide +kernel) (by decide)
theorem mw_X11_fieldHeight : Cond.instanceMethod yX11_fieldHeight ∈ g_ws := g_tb (i := 1642) (by decide +kernel) (by decide)
theorem mk_X11_210 : g_MV RX11 210 yX11_fieldHeight cX11_fieldHeight 1 (some .int) 0 := ⟨⟨g_tb (i := 1640) (by decide +kernel) (by decide), ini_RX11, cd_X11_fieldHeight, ⟨by decide, by decide⟩, by decide +kernel⟩, mw_X11_fieldHeight, sl_X11_fieldHeight⟩
theorem cd_X11_offers : Cond.code yX11_offers cX11_offers 6 none ∈ g_ws := g_tb (i := 1651) (by decide +kernel) (by decide)
theorem sl_X11_offers : Cond.selects yX11_offers.cls yX11_offers yX11_offers ∈ g_ws := g_sel (i := 61) (q := (yX11_offers, 38)) (by decide +kernel) (by decide)
theorem mw_X11_offers : Cond.instanceMethod yX11_offers ∈ g_ws := g_tb (i := 1650) (by decide +kernel) (by decide)
theorem mk_X11_206 : g_MV RX11 206 yX11_offers cX11_offers 6 none 4 := ⟨⟨g_tb (i := 1648) (by decide +kernel) (by decide), ini_RX11, cd_X11_offers, ⟨by decide, by decide⟩, by decide +kernel⟩, mw_X11_offers, sl_X11_offers⟩
theorem cd_X11_boxesOf : Cond.code yX11_boxesOf cX11_boxesOf 4 none ∈ g_ws := g_tb (i := 1611) (by decide +kernel) (by decide)
theorem sl_X11_boxesOf : Cond.selects yX11_boxesOf.cls yX11_boxesOf yX11_boxesOf ∈ g_ws := g_sel (i := 51) (q := (yX11_boxesOf, 38)) (by decide +kernel) (by decide)
theorem mw_X11_boxesOf : Cond.instanceMethod yX11_boxesOf ∈ g_ws := g_tb (i := 1610) (by decide +kernel) (by decide)
theorem mk_X11_213 : g_MV RX11 213 yX11_boxesOf cX11_boxesOf 4 none 1 := ⟨⟨g_tb (i := 1608) (by decide +kernel) (by decide), ini_RX11, cd_X11_boxesOf, ⟨by decide, by decide⟩, by decide +kernel⟩, mw_X11_boxesOf, sl_X11_boxesOf⟩
theorem fl_X11_74 : g_FL RX11 74 12 30 RX11 TX11 38 := ⟨rfl, by decide, in_X11, g_tb (i := 1310) (by decide +kernel) (by decide), rfl⟩
theorem fl_X11_77 : g_FL RX11 77 12 31 RX11 TX11 38 := ⟨rfl, by decide, in_X11, g_tb (i := 1311) (by decide +kernel) (by decide), rfl⟩
theorem cd_X11_between : Cond.code yX11_between cX11_between 5 none ∈ g_ws := g_tb (i := 1647) (by decide +kernel) (by decide)
theorem sl_X11_between : Cond.selects yX11_between.cls yX11_between yX11_between ∈ g_ws := g_sel (i := 60) (q := (yX11_between, 38)) (by decide +kernel) (by decide)
theorem mw_X11_between : Cond.instanceMethod yX11_between ∈ g_ws := g_tb (i := 1646) (by decide +kernel) (by decide)
theorem mk_X11_216 : g_MV RX11 216 yX11_between cX11_between 5 none 2 := ⟨⟨g_tb (i := 1644) (by decide +kernel) (by decide), ini_RX11, cd_X11_between, ⟨by decide, by decide⟩, by decide +kernel⟩, mw_X11_between, sl_X11_between⟩
theorem cd_X11_fits : Cond.code yX11_fits cX11_fits 4 (some .boolean) ∈ g_ws := g_tb (i := 1667) (by decide +kernel) (by decide)
theorem sl_X11_fits : Cond.selects yX11_fits.cls yX11_fits yX11_fits ∈ g_ws := g_sel (i := 65) (q := (yX11_fits, 38)) (by decide +kernel) (by decide)
theorem mw_X11_fits : Cond.instanceMethod yX11_fits ∈ g_ws := g_tb (i := 1666) (by decide +kernel) (by decide)
theorem mk_X11_219 : g_MV RX11 219 yX11_fits cX11_fits 4 (some .boolean) 3 := ⟨⟨g_tb (i := 1664) (by decide +kernel) (by decide), ini_RX11, cd_X11_fits, ⟨by decide, by decide⟩, by decide +kernel⟩, mw_X11_fits, sl_X11_fits⟩
theorem fl_X11_222 : g_FL RX11 222 12 32 RX11 TX11 38 := ⟨rfl, by decide, in_X11, g_tb (i := 1312) (by decide +kernel) (by decide), rfl⟩
theorem fl_X11_225 : g_FL RX11 225 12 34 RX11 TX11 38 := ⟨rfl, by decide, in_X11, g_tb (i := 1314) (by decide +kernel) (by decide), rfl⟩
theorem fl_X11_231 : g_FL RX11 231 12 33 RX11 TX11 38 := ⟨rfl, by decide, in_X11, g_tb (i := 1313) (by decide +kernel) (by decide), rfl⟩
theorem fl_X11_228 : g_FL RX11 228 12 35 RX11 TX11 38 := ⟨rfl, by decide, in_X11, g_tb (i := 1315) (by decide +kernel) (by decide), rfl⟩
theorem cd_X11_freesOf : Cond.code yX11_freesOf cX11_freesOf 5 none ∈ g_ws := g_tb (i := 1635) (by decide +kernel) (by decide)
theorem sl_X11_freesOf : Cond.selects yX11_freesOf.cls yX11_freesOf yX11_freesOf ∈ g_ws := g_sel (i := 57) (q := (yX11_freesOf, 38)) (by decide +kernel) (by decide)
theorem mw_X11_freesOf : Cond.instanceMethod yX11_freesOf ∈ g_ws := g_tb (i := 1634) (by decide +kernel) (by decide)
theorem mk_X11_234 : g_MV RX11 234 yX11_freesOf cX11_freesOf 5 none 1 := ⟨⟨g_tb (i := 1632) (by decide +kernel) (by decide), ini_RX11, cd_X11_freesOf, ⟨by decide, by decide⟩, by decide +kernel⟩, mw_X11_freesOf, sl_X11_freesOf⟩
theorem cd_X11_values : Cond.code yX11_values cX11_values 12 none ∈ g_ws := g_tb (i := 1663) (by decide +kernel) (by decide)
theorem sl_X11_values : Cond.selects yX11_values.cls yX11_values yX11_values ∈ g_ws := g_sel (i := 64) (q := (yX11_values, 38)) (by decide +kernel) (by decide)
theorem mw_X11_values : Cond.instanceMethod yX11_values ∈ g_ws := g_tb (i := 1662) (by decide +kernel) (by decide)
theorem mk_X11_237 : g_MV RX11 237 yX11_values cX11_values 12 none 3 := ⟨⟨g_tb (i := 1660) (by decide +kernel) (by decide), ini_RX11, cd_X11_values, ⟨by decide, by decide⟩, by decide +kernel⟩, mw_X11_values, sl_X11_values⟩
theorem cd_X11_isOpen : Cond.code yX11_isOpen cX11_isOpen 3 (some .boolean) ∈ g_ws := g_tb (i := 1607) (by decide +kernel) (by decide)
theorem sl_X11_isOpen : Cond.selects yX11_isOpen.cls yX11_isOpen yX11_isOpen ∈ g_ws := g_sel (i := 50) (q := (yX11_isOpen, 38)) (by decide +kernel) (by decide)
theorem mw_X11_isOpen : Cond.instanceMethod yX11_isOpen ∈ g_ws := g_tb (i := 1606) (by decide +kernel) (by decide)
theorem mk_X11_241 : g_MV RX11 241 yX11_isOpen cX11_isOpen 3 (some .boolean) 2 := ⟨⟨g_tb (i := 1604) (by decide +kernel) (by decide), ini_RX11, cd_X11_isOpen, ⟨by decide, by decide⟩, by decide +kernel⟩, mw_X11_isOpen, sl_X11_isOpen⟩
theorem cd_X11_placesOn : Cond.code yX11_placesOn cX11_placesOn 4 (some .boolean) ∈ g_ws := g_tb (i := 1631) (by decide +kernel) (by decide)
theorem sl_X11_placesOn : Cond.selects yX11_placesOn.cls yX11_placesOn yX11_placesOn ∈ g_ws := g_sel (i := 56) (q := (yX11_placesOn, 38)) (by decide +kernel) (by decide)
theorem mw_X11_placesOn : Cond.instanceMethod yX11_placesOn ∈ g_ws := g_tb (i := 1630) (by decide +kernel) (by decide)
theorem mk_X11_245 : g_MV RX11 245 yX11_placesOn cX11_placesOn 4 (some .boolean) 2 := ⟨⟨g_tb (i := 1628) (by decide +kernel) (by decide), ini_RX11, cd_X11_placesOn, ⟨by decide, by decide⟩, by decide +kernel⟩, mw_X11_placesOn, sl_X11_placesOn⟩
theorem fl_X11_80 : g_FL RX11 80 12 36 RX11 TX11 38 := ⟨rfl, by decide, in_X11, g_tb (i := 1316) (by decide +kernel) (by decide), rfl⟩
theorem cd_X11_isOriginal : Cond.code yX11_isOriginal cX11_isOriginal 2 (some .boolean) ∈ g_ws := g_tb (i := 1595) (by decide +kernel) (by decide)
theorem sl_X11_isOriginal : Cond.selects yX11_isOriginal.cls yX11_isOriginal yX11_isOriginal ∈ g_ws := g_sel (i := 47) (q := (yX11_isOriginal, 38)) (by decide +kernel) (by decide)
theorem mw_X11_isOriginal : Cond.instanceMethod yX11_isOriginal ∈ g_ws := g_tb (i := 1594) (by decide +kernel) (by decide)
theorem mk_X11_248 : g_MV RX11 248 yX11_isOriginal cX11_isOriginal 2 (some .boolean) 1 := ⟨⟨g_tb (i := 1592) (by decide +kernel) (by decide), ini_RX11, cd_X11_isOriginal, ⟨by decide, by decide⟩, by decide +kernel⟩, mw_X11_isOriginal, sl_X11_isOriginal⟩
theorem cd_X11_isFirst : Cond.code yX11_isFirst cX11_isFirst 7 (some .boolean) ∈ g_ws := g_tb (i := 1599) (by decide +kernel) (by decide)
theorem sl_X11_isFirst : Cond.selects yX11_isFirst.cls yX11_isFirst yX11_isFirst ∈ g_ws := g_sel (i := 48) (q := (yX11_isFirst, 38)) (by decide +kernel) (by decide)
theorem mw_X11_isFirst : Cond.instanceMethod yX11_isFirst ∈ g_ws := g_tb (i := 1598) (by decide +kernel) (by decide)
theorem mk_X11_251 : g_MV RX11 251 yX11_isFirst cX11_isFirst 7 (some .boolean) 2 := ⟨⟨g_tb (i := 1596) (by decide +kernel) (by decide), ini_RX11, cd_X11_isFirst, ⟨by decide, by decide⟩, by decide +kernel⟩, mw_X11_isFirst, sl_X11_isFirst⟩
theorem cd_X11_places : Cond.code yX11_places cX11_places 4 (some .boolean) ∈ g_ws := g_tb (i := 1603) (by decide +kernel) (by decide)
theorem sl_X11_places : Cond.selects yX11_places.cls yX11_places yX11_places ∈ g_ws := g_sel (i := 49) (q := (yX11_places, 38)) (by decide +kernel) (by decide)
theorem mw_X11_places : Cond.instanceMethod yX11_places ∈ g_ws := g_tb (i := 1602) (by decide +kernel) (by decide)
theorem mk_X11_254 : g_MV RX11 254 yX11_places cX11_places 4 (some .boolean) 1 := ⟨⟨g_tb (i := 1600) (by decide +kernel) (by decide), ini_RX11, cd_X11_places, ⟨by decide, by decide⟩, by decide +kernel⟩, mw_X11_places, sl_X11_places⟩
theorem cd_X11_packs : Cond.code yX11_packs cX11_packs 5 (some .int) ∈ g_ws := g_tb (i := 1591) (by decide +kernel) (by decide)
theorem sl_X11_packs : Cond.selects yX11_packs.cls yX11_packs yX11_packs ∈ g_ws := g_sel (i := 46) (q := (yX11_packs, 38)) (by decide +kernel) (by decide)
theorem mw_X11_packs : Cond.instanceMethod yX11_packs ∈ g_ws := g_tb (i := 1590) (by decide +kernel) (by decide)
theorem mk_X11_257 : g_MV RX11 257 yX11_packs cX11_packs 5 (some .int) 0 := ⟨⟨g_tb (i := 1588) (by decide +kernel) (by decide), ini_RX11, cd_X11_packs, ⟨by decide, by decide⟩, by decide +kernel⟩, mw_X11_packs, sl_X11_packs⟩
theorem fl_X11_13 : g_FL RX11 13 12 1 RX11 TX11 38 := ⟨rfl, by decide, in_X11, g_tb (i := 1281) (by decide +kernel) (by decide), rfl⟩
theorem fl_X11_83 : g_FL RX11 83 12 37 RX11 TX11 38 := ⟨rfl, by decide, in_X11, g_tb (i := 1317) (by decide +kernel) (by decide), rfl⟩
theorem cd_X11_keeps : Cond.code yX11_keeps cX11_keeps 2 none ∈ g_ws := g_tb (i := 1675) (by decide +kernel) (by decide)
theorem sl_X11_keeps : Cond.selects yX11_keeps.cls yX11_keeps yX11_keeps ∈ g_ws := g_sel (i := 66) (q := (yX11_keeps, 38)) (by decide +kernel) (by decide)
theorem mw_X11_keeps : Cond.instanceMethod yX11_keeps ∈ g_ws := g_tb (i := 1674) (by decide +kernel) (by decide)
theorem mk_X11_260 : g_MV RX11 260 yX11_keeps cX11_keeps 2 none 0 := ⟨⟨g_tb (i := 1672) (by decide +kernel) (by decide), ini_RX11, cd_X11_keeps, ⟨by decide, by decide⟩, by decide +kernel⟩, mw_X11_keeps, sl_X11_keeps⟩
theorem cd_X11_copies : Cond.code yX11_copies cX11_copies 4 none ∈ g_ws := g_tb (i := 1679) (by decide +kernel) (by decide)
theorem sl_X11_copies : Cond.selects yX11_copies.cls yX11_copies yX11_copies ∈ g_ws := g_sel (i := 67) (q := (yX11_copies, 38)) (by decide +kernel) (by decide)
theorem mw_X11_copies : Cond.instanceMethod yX11_copies ∈ g_ws := g_tb (i := 1678) (by decide +kernel) (by decide)
theorem mk_X11_263 : g_MV RX11 263 yX11_copies cX11_copies 4 none 2 := ⟨⟨g_tb (i := 1676) (by decide +kernel) (by decide), ini_RX11, cd_X11_copies, ⟨by decide, by decide⟩, by decide +kernel⟩, mw_X11_copies, sl_X11_copies⟩
theorem cd_X11_brings : Cond.code yX11_brings cX11_brings 2 none ∈ g_ws := g_tb (i := 1683) (by decide +kernel) (by decide)
theorem sl_X11_brings : Cond.selects yX11_brings.cls yX11_brings yX11_brings ∈ g_ws := g_sel (i := 68) (q := (yX11_brings, 38)) (by decide +kernel) (by decide)
theorem mw_X11_brings : Cond.instanceMethod yX11_brings ∈ g_ws := g_tb (i := 1682) (by decide +kernel) (by decide)
theorem mk_X11_267 : g_MV RX11 267 yX11_brings cX11_brings 2 none 0 := ⟨⟨g_tb (i := 1680) (by decide +kernel) (by decide), ini_RX11, cd_X11_brings, ⟨by decide, by decide⟩, by decide +kernel⟩, mw_X11_brings, sl_X11_brings⟩
theorem cd_X11_holder : Cond.code yX11_holder cX11_holder 3 (some .int) ∈ g_ws := g_tb (i := 1695) (by decide +kernel) (by decide)
theorem sl_X11_holder : Cond.selects yX11_holder.cls yX11_holder yX11_holder ∈ g_ws := g_sel (i := 69) (q := (yX11_holder, 38)) (by decide +kernel) (by decide)
theorem mw_X11_holder : Cond.instanceMethod yX11_holder ∈ g_ws := g_tb (i := 1694) (by decide +kernel) (by decide)
theorem mk_X11_270 : g_MV RX11 270 yX11_holder cX11_holder 3 (some .int) 1 := ⟨⟨g_tb (i := 1692) (by decide +kernel) (by decide), ini_RX11, cd_X11_holder, ⟨by decide, by decide⟩, by decide +kernel⟩, mw_X11_holder, sl_X11_holder⟩
theorem cd_X11_columnOf : Cond.code yX11_columnOf cX11_columnOf 2 (some .int) ∈ g_ws := g_tb (i := 1703) (by decide +kernel) (by decide)
theorem sl_X11_columnOf : Cond.selects yX11_columnOf.cls yX11_columnOf yX11_columnOf ∈ g_ws := g_sel (i := 70) (q := (yX11_columnOf, 38)) (by decide +kernel) (by decide)
theorem mw_X11_columnOf : Cond.instanceMethod yX11_columnOf ∈ g_ws := g_tb (i := 1702) (by decide +kernel) (by decide)
theorem mk_X11_273 : g_MV RX11 273 yX11_columnOf cX11_columnOf 2 (some .int) 1 := ⟨⟨g_tb (i := 1700) (by decide +kernel) (by decide), ini_RX11, cd_X11_columnOf, ⟨by decide, by decide⟩, by decide +kernel⟩, mw_X11_columnOf, sl_X11_columnOf⟩
theorem cd_X11_rowOf : Cond.code yX11_rowOf cX11_rowOf 2 (some .int) ∈ g_ws := g_tb (i := 1711) (by decide +kernel) (by decide)
theorem sl_X11_rowOf : Cond.selects yX11_rowOf.cls yX11_rowOf yX11_rowOf ∈ g_ws := g_sel (i := 71) (q := (yX11_rowOf, 38)) (by decide +kernel) (by decide)
theorem mw_X11_rowOf : Cond.instanceMethod yX11_rowOf ∈ g_ws := g_tb (i := 1710) (by decide +kernel) (by decide)
theorem mk_X11_276 : g_MV RX11 276 yX11_rowOf cX11_rowOf 2 (some .int) 1 := ⟨⟨g_tb (i := 1708) (by decide +kernel) (by decide), ini_RX11, cd_X11_rowOf, ⟨by decide, by decide⟩, by decide +kernel⟩, mw_X11_rowOf, sl_X11_rowOf⟩
theorem cd_X11_record : Cond.code yX11_record cX11_record 4 (some .int) ∈ g_ws := g_tb (i := 1723) (by decide +kernel) (by decide)
theorem sl_X11_record : Cond.selects yX11_record.cls yX11_record yX11_record ∈ g_ws := g_sel (i := 72) (q := (yX11_record, 38)) (by decide +kernel) (by decide)
theorem mw_X11_record : Cond.instanceMethod yX11_record ∈ g_ws := g_tb (i := 1722) (by decide +kernel) (by decide)
theorem mk_X11_279 : g_MV RX11 279 yX11_record cX11_record 4 (some .int) 2 := ⟨⟨g_tb (i := 1720) (by decide +kernel) (by decide), ini_RX11, cd_X11_record, ⟨by decide, by decide⟩, by decide +kernel⟩, mw_X11_record, sl_X11_record⟩
theorem cd_X11_isPage : Cond.code yX11_isPage cX11_isPage 2 (some .boolean) ∈ g_ws := g_tb (i := 1739) (by decide +kernel) (by decide)
theorem sl_X11_isPage : Cond.selects yX11_isPage.cls yX11_isPage yX11_isPage ∈ g_ws := g_sel (i := 74) (q := (yX11_isPage, 38)) (by decide +kernel) (by decide)
theorem mw_X11_isPage : Cond.instanceMethod yX11_isPage ∈ g_ws := g_tb (i := 1738) (by decide +kernel) (by decide)
theorem mk_X11_282 : g_MV RX11 282 yX11_isPage cX11_isPage 2 (some .boolean) 1 := ⟨⟨g_tb (i := 1736) (by decide +kernel) (by decide), ini_RX11, cd_X11_isPage, ⟨by decide, by decide⟩, by decide +kernel⟩, mw_X11_isPage, sl_X11_isPage⟩
theorem cd_X11_ownerAt : Cond.code yX11_ownerAt cX11_ownerAt 8 (some .int) ∈ g_ws := g_tb (i := 1747) (by decide +kernel) (by decide)
theorem sl_X11_ownerAt : Cond.selects yX11_ownerAt.cls yX11_ownerAt yX11_ownerAt ∈ g_ws := g_sel (i := 76) (q := (yX11_ownerAt, 38)) (by decide +kernel) (by decide)
theorem mw_X11_ownerAt : Cond.instanceMethod yX11_ownerAt ∈ g_ws := g_tb (i := 1746) (by decide +kernel) (by decide)
theorem mk_X11_285 : g_MV RX11 285 yX11_ownerAt cX11_ownerAt 8 (some .int) 3 := ⟨⟨g_tb (i := 1744) (by decide +kernel) (by decide), ini_RX11, cd_X11_ownerAt, ⟨by decide, by decide⟩, by decide +kernel⟩, mw_X11_ownerAt, sl_X11_ownerAt⟩
theorem cd_X11_held : Cond.code yX11_held cX11_held 2 (some .int) ∈ g_ws := g_tb (i := 1750) (by decide +kernel) (by decide)
theorem mw_X11_held : Cond.static yX11_held ∈ g_ws := g_tb (i := 1749) (by decide +kernel) (by decide)
theorem mk_X11_288 : g_MS RX11 288 yX11_held cX11_held 2 (some .int) 2 := ⟨⟨g_tb (i := 1748) (by decide +kernel) (by decide), ini_RX11, cd_X11_held, ⟨by decide, by decide⟩, by decide +kernel⟩, mw_X11_held⟩
theorem cd_X11_isOnPage : Cond.code yX11_isOnPage cX11_isOnPage 4 (some .boolean) ∈ g_ws := g_tb (i := 1735) (by decide +kernel) (by decide)
theorem sl_X11_isOnPage : Cond.selects yX11_isOnPage.cls yX11_isOnPage yX11_isOnPage ∈ g_ws := g_sel (i := 73) (q := (yX11_isOnPage, 38)) (by decide +kernel) (by decide)
theorem mw_X11_isOnPage : Cond.instanceMethod yX11_isOnPage ∈ g_ws := g_tb (i := 1734) (by decide +kernel) (by decide)
theorem mk_X11_291 : g_MV RX11 291 yX11_isOnPage cX11_isOnPage 4 (some .boolean) 3 := ⟨⟨g_tb (i := 1732) (by decide +kernel) (by decide), ini_RX11, cd_X11_isOnPage, ⟨by decide, by decide⟩, by decide +kernel⟩, mw_X11_isOnPage, sl_X11_isOnPage⟩
theorem cd_X11_colorAt : Cond.code yX11_colorAt cX11_colorAt 8 (some .int) ∈ g_ws := g_tb (i := 1743) (by decide +kernel) (by decide)
theorem sl_X11_colorAt : Cond.selects yX11_colorAt.cls yX11_colorAt yX11_colorAt ∈ g_ws := g_sel (i := 75) (q := (yX11_colorAt, 38)) (by decide +kernel) (by decide)
theorem mw_X11_colorAt : Cond.instanceMethod yX11_colorAt ∈ g_ws := g_tb (i := 1742) (by decide +kernel) (by decide)
theorem mk_X11_294 : g_MV RX11 294 yX11_colorAt cX11_colorAt 8 (some .int) 3 := ⟨⟨g_tb (i := 1740) (by decide +kernel) (by decide), ini_RX11, cd_X11_colorAt, ⟨by decide, by decide⟩, by decide +kernel⟩, mw_X11_colorAt, sl_X11_colorAt⟩
theorem cd_X11_used : Cond.code yX11_used cX11_used 7 (some .int) ∈ g_ws := g_tb (i := 1762) (by decide +kernel) (by decide)
theorem sl_X11_used : Cond.selects yX11_used.cls yX11_used yX11_used ∈ g_ws := g_sel (i := 77) (q := (yX11_used, 38)) (by decide +kernel) (by decide)
theorem mw_X11_used : Cond.instanceMethod yX11_used ∈ g_ws := g_tb (i := 1761) (by decide +kernel) (by decide)
theorem mk_X11_297 : g_MV RX11 297 yX11_used cX11_used 7 (some .int) 2 := ⟨⟨g_tb (i := 1759) (by decide +kernel) (by decide), ini_RX11, cd_X11_used, ⟨by decide, by decide⟩, by decide +kernel⟩, mw_X11_used, sl_X11_used⟩
theorem cd_X11_looks : Cond.code yX11_looks cX11_looks 2 (some .int) ∈ g_ws := g_tb (i := 1774) (by decide +kernel) (by decide)
theorem sl_X11_looks : Cond.selects yX11_looks.cls yX11_looks yX11_looks ∈ g_ws := g_sel (i := 78) (q := (yX11_looks, 38)) (by decide +kernel) (by decide)
theorem mw_X11_looks : Cond.instanceMethod yX11_looks ∈ g_ws := g_tb (i := 1773) (by decide +kernel) (by decide)
theorem mk_X11_301 : g_MV RX11 301 yX11_looks cX11_looks 2 (some .int) 1 := ⟨⟨g_tb (i := 1771) (by decide +kernel) (by decide), ini_RX11, cd_X11_looks, ⟨by decide, by decide⟩, by decide +kernel⟩, mw_X11_looks, sl_X11_looks⟩
theorem cd_X11_usedByAll : Cond.code yX11_usedByAll cX11_usedByAll 3 (some .int) ∈ g_ws := g_tb (i := 1810) (by decide +kernel) (by decide)
theorem sl_X11_usedByAll : Cond.selects yX11_usedByAll.cls yX11_usedByAll yX11_usedByAll ∈ g_ws := g_sel (i := 79) (q := (yX11_usedByAll, 38)) (by decide +kernel) (by decide)
theorem mw_X11_usedByAll : Cond.instanceMethod yX11_usedByAll ∈ g_ws := g_tb (i := 1809) (by decide +kernel) (by decide)
theorem mk_X11_304 : g_MV RX11 304 yX11_usedByAll cX11_usedByAll 3 (some .int) 0 := ⟨⟨g_tb (i := 1807) (by decide +kernel) (by decide), ini_RX11, cd_X11_usedByAll, ⟨by decide, by decide⟩, by decide +kernel⟩, mw_X11_usedByAll, sl_X11_usedByAll⟩
theorem fl_X11_29 : g_FL RX11 29 12 8 RX11 TX11 38 := ⟨rfl, by decide, in_X11, g_tb (i := 1288) (by decide +kernel) (by decide), rfl⟩
theorem fl_X11_307 : g_FL RX11 307 12 9 RX11 TX11 38 := ⟨rfl, by decide, in_X11, g_tb (i := 1289) (by decide +kernel) (by decide), rfl⟩
theorem cd_X11_sign : Cond.code yX11_sign cX11_sign 2 none ∈ g_ws := g_tb (i := 1826) (by decide +kernel) (by decide)
theorem sl_X11_sign : Cond.selects yX11_sign.cls yX11_sign yX11_sign ∈ g_ws := g_sel (i := 81) (q := (yX11_sign, 38)) (by decide +kernel) (by decide)
theorem mw_X11_sign : Cond.instanceMethod yX11_sign ∈ g_ws := g_tb (i := 1825) (by decide +kernel) (by decide)
theorem mk_X11_310 : g_MV RX11 310 yX11_sign cX11_sign 2 none 1 := ⟨⟨g_tb (i := 1823) (by decide +kernel) (by decide), ini_RX11, cd_X11_sign, ⟨by decide, by decide⟩, by decide +kernel⟩, mw_X11_sign, sl_X11_sign⟩
theorem kc_X11_313 : Cond.constantLong RX11 313 (8097867289015091200) ∈ g_ws := g_tb (i := 1837) (by decide +kernel) (by decide)
theorem cd_X11_word : Cond.code yX11_word cX11_word 7 none ∈ g_ws := g_tb (i := 1831) (by decide +kernel) (by decide)
theorem sl_X11_word : Cond.selects yX11_word.cls yX11_word yX11_word ∈ g_ws := g_sel (i := 82) (q := (yX11_word, 38)) (by decide +kernel) (by decide)
theorem mw_X11_word : Cond.instanceMethod yX11_word ∈ g_ws := g_tb (i := 1830) (by decide +kernel) (by decide)
theorem mk_X11_315 : g_MV RX11 315 yX11_word cX11_word 7 none 2 := ⟨⟨g_tb (i := 1828) (by decide +kernel) (by decide), ini_RX11, cd_X11_word, ⟨by decide, by decide⟩, by decide +kernel⟩, mw_X11_word, sl_X11_word⟩
theorem cd_X11_number : Cond.code yX11_number cX11_number 2 none ∈ g_ws := g_tb (i := 1822) (by decide +kernel) (by decide)
theorem sl_X11_number : Cond.selects yX11_number.cls yX11_number yX11_number ∈ g_ws := g_sel (i := 80) (q := (yX11_number, 38)) (by decide +kernel) (by decide)
theorem mw_X11_number : Cond.instanceMethod yX11_number ∈ g_ws := g_tb (i := 1821) (by decide +kernel) (by decide)
theorem mk_X11_319 : g_MV RX11 319 yX11_number cX11_number 2 none 1 := ⟨⟨g_tb (i := 1819) (by decide +kernel) (by decide), ini_RX11, cd_X11_number, ⟨by decide, by decide⟩, by decide +kernel⟩, mw_X11_number, sl_X11_number⟩
theorem kc_X11_322 : Cond.constantLong RX11 322 (7022272903349534720) ∈ g_ws := g_tb (i := 1838) (by decide +kernel) (by decide)
theorem kc_X11_324 : Cond.constantLong RX11 324 (8316312761663488000) ∈ g_ws := g_tb (i := 1839) (by decide +kernel) (by decide)
theorem kc_X11_326 : Cond.constantLong RX11 326 (8243104023283245056) ∈ g_ws := g_tb (i := 1840) (by decide +kernel) (by decide)
theorem kc_X11_328 : Cond.constantLong RX11 328 (7092150640071147520) ∈ g_ws := g_tb (i := 1827) (by decide +kernel) (by decide)
theorem kc_X11_330 : Cond.constantLong RX11 330 (8461824360668423524) ∈ g_ws := g_tb (i := 1832) (by decide +kernel) (by decide)
theorem cd_X11_printsPlace : Cond.code yX11_printsPlace cX11_printsPlace 3 none ∈ g_ws := g_tb (i := 1836) (by decide +kernel) (by decide)
theorem sl_X11_printsPlace : Cond.selects yX11_printsPlace.cls yX11_printsPlace yX11_printsPlace ∈ g_ws := g_sel (i := 83) (q := (yX11_printsPlace, 38)) (by decide +kernel) (by decide)
theorem mw_X11_printsPlace : Cond.instanceMethod yX11_printsPlace ∈ g_ws := g_tb (i := 1835) (by decide +kernel) (by decide)
theorem mk_X11_332 : g_MV RX11 332 yX11_printsPlace cX11_printsPlace 3 none 2 := ⟨⟨g_tb (i := 1833) (by decide +kernel) (by decide), ini_RX11, cd_X11_printsPlace, ⟨by decide, by decide⟩, by decide +kernel⟩, mw_X11_printsPlace, sl_X11_printsPlace⟩
theorem kc_X11_335 : Cond.constantLong RX11 335 (7165069197707273760) ∈ g_ws := g_tb (i := 1841) (by decide +kernel) (by decide)
theorem fl_X11_19 : g_FL RX11 19 12 4 RX11 TX11 38 := ⟨rfl, by decide, in_X11, g_tb (i := 1284) (by decide +kernel) (by decide), rfl⟩
theorem fl_X11_22 : g_FL RX11 22 12 5 RX11 TX11 38 := ⟨rfl, by decide, in_X11, g_tb (i := 1285) (by decide +kernel) (by decide), rfl⟩
theorem kc_X11_337 : Cond.constantLong RX11 337 (31) ∈ g_ws := g_tb (i := 1862) (by decide +kernel) (by decide)
theorem cd_X11_more : Cond.code yX11_more cX11_more 3 (some .long) ∈ g_ws := g_tb (i := 1861) (by decide +kernel) (by decide)
theorem mw_X11_more : Cond.static yX11_more ∈ g_ws := g_tb (i := 1860) (by decide +kernel) (by decide)
theorem mk_X11_339 : g_MS RX11 339 yX11_more cX11_more 3 (some .long) 2 := ⟨⟨g_tb (i := 1859) (by decide +kernel) (by decide), ini_RX11, cd_X11_more, ⟨by decide, by decide⟩, by decide +kernel⟩, mw_X11_more⟩
theorem cd_X11_orNone : Cond.code yX11_orNone cX11_orNone 2 (some .int) ∈ g_ws := g_tb (i := 1869) (by decide +kernel) (by decide)
theorem mw_X11_orNone : Cond.static yX11_orNone ∈ g_ws := g_tb (i := 1868) (by decide +kernel) (by decide)
theorem mk_X11_343 : g_MS RX11 343 yX11_orNone cX11_orNone 2 (some .int) 2 := ⟨⟨g_tb (i := 1867) (by decide +kernel) (by decide), ini_RX11, cd_X11_orNone, ⟨by decide, by decide⟩, by decide +kernel⟩, mw_X11_orNone⟩
theorem kc_X11_347 : Cond.constantLong RX11 347 (19) ∈ g_ws := g_tb (i := 1858) (by decide +kernel) (by decide)
theorem cd_X11_moreOf : Cond.code yX11_moreOf cX11_moreOf 12 (some .long) ∈ g_ws := g_tb (i := 1866) (by decide +kernel) (by decide)
theorem sl_X11_moreOf : Cond.selects yX11_moreOf.cls yX11_moreOf yX11_moreOf ∈ g_ws := g_sel (i := 84) (q := (yX11_moreOf, 38)) (by decide +kernel) (by decide)
theorem mw_X11_moreOf : Cond.instanceMethod yX11_moreOf ∈ g_ws := g_tb (i := 1865) (by decide +kernel) (by decide)
theorem mk_X11_349 : g_MV RX11 349 yX11_moreOf cX11_moreOf 12 (some .long) 2 := ⟨⟨g_tb (i := 1863) (by decide +kernel) (by decide), ini_RX11, cd_X11_moreOf, ⟨by decide, by decide⟩, by decide +kernel⟩, mw_X11_moreOf, sl_X11_moreOf⟩
theorem cd_X11_moreOfPage : Cond.code yX11_moreOfPage cX11_moreOfPage 8 (some .long) ∈ g_ws := g_tb (i := 1873) (by decide +kernel) (by decide)
theorem sl_X11_moreOfPage : Cond.selects yX11_moreOfPage.cls yX11_moreOfPage yX11_moreOfPage ∈ g_ws := g_sel (i := 85) (q := (yX11_moreOfPage, 38)) (by decide +kernel) (by decide)
theorem mw_X11_moreOfPage : Cond.instanceMethod yX11_moreOfPage ∈ g_ws := g_tb (i := 1872) (by decide +kernel) (by decide)
theorem mk_X11_352 : g_MV RX11 352 yX11_moreOfPage cX11_moreOfPage 8 (some .long) 2 := ⟨⟨g_tb (i := 1870) (by decide +kernel) (by decide), ini_RX11, cd_X11_moreOfPage, ⟨by decide, by decide⟩, by decide +kernel⟩, mw_X11_moreOfPage, sl_X11_moreOfPage⟩
theorem cd_X10_append : Cond.code yX10_append cX10_append 2 (some .int) ∈ g_ws := g_tb (i := 409) (by decide +kernel) (by decide)
theorem sl_X10_append : Cond.selects yX10_append.cls yX10_append yX10_append ∈ g_ws := g_tb (i := 408) (by decide +kernel) (by decide)
theorem mw_X10_append : Cond.instanceMethod yX10_append ∈ g_ws := g_tb (i := 407) (by decide +kernel) (by decide)
theorem mk_L_13 : g_MV RL 13 yX10_append cX10_append 2 (some .int) 1 := ⟨⟨g_tb (i := 406) (by decide +kernel) (by decide), ini_RX10, cd_X10_append, ⟨by decide, by decide⟩, by decide +kernel⟩, mw_X10_append, sl_X10_append⟩
theorem cd_X10_clearText : Cond.code yX10_clearText cX10_clearText 2 (some .int) ∈ g_ws := g_tb (i := 420) (by decide +kernel) (by decide)
theorem sl_X10_clearText : Cond.selects yX10_clearText.cls yX10_clearText yX10_clearText ∈ g_ws := g_tb (i := 419) (by decide +kernel) (by decide)
theorem mw_X10_clearText : Cond.instanceMethod yX10_clearText ∈ g_ws := g_tb (i := 418) (by decide +kernel) (by decide)
theorem mk_L_18 : g_MV RL 18 yX10_clearText cX10_clearText 2 (some .int) 0 := ⟨⟨g_tb (i := 417) (by decide +kernel) (by decide), ini_RX10, cd_X10_clearText, ⟨by decide, by decide⟩, by decide +kernel⟩, mw_X10_clearText, sl_X10_clearText⟩
theorem cd_X10_faultPosition : Cond.code yX10_faultPosition cX10_faultPosition 1 (some .int) ∈ g_ws := g_tb (i := 424) (by decide +kernel) (by decide)
theorem sl_X10_faultPosition : Cond.selects yX10_faultPosition.cls yX10_faultPosition yX10_faultPosition ∈ g_ws := g_tb (i := 423) (by decide +kernel) (by decide)
theorem mw_X10_faultPosition : Cond.instanceMethod yX10_faultPosition ∈ g_ws := g_tb (i := 422) (by decide +kernel) (by decide)
theorem mk_L_23 : g_MV RL 23 yX10_faultPosition cX10_faultPosition 1 (some .int) 0 := ⟨⟨g_tb (i := 421) (by decide +kernel) (by decide), ini_RX10, cd_X10_faultPosition, ⟨by decide, by decide⟩, by decide +kernel⟩, mw_X10_faultPosition, sl_X10_faultPosition⟩
theorem cd_X10_read : Cond.code yX10_read cX10_read 1 (some .int) ∈ g_ws := g_tb (i := 435) (by decide +kernel) (by decide)
theorem sl_X10_read : Cond.selects yX10_read.cls yX10_read yX10_read ∈ g_ws := g_tb (i := 434) (by decide +kernel) (by decide)
theorem mw_X10_read : Cond.instanceMethod yX10_read ∈ g_ws := g_tb (i := 433) (by decide +kernel) (by decide)
theorem mk_L_27 : g_MV RL 27 yX10_read cX10_read 1 (some .int) 0 := ⟨⟨g_tb (i := 432) (by decide +kernel) (by decide), ini_RX10, cd_X10_read, ⟨by decide, by decide⟩, by decide +kernel⟩, mw_X10_read, sl_X10_read⟩
theorem cd_X10_draw : Cond.code yX10_draw cX10_draw 4 (some .int) ∈ g_ws := g_tb (i := 545) (by decide +kernel) (by decide)
theorem sl_X10_draw : Cond.selects yX10_draw.cls yX10_draw yX10_draw ∈ g_ws := g_tb (i := 544) (by decide +kernel) (by decide)
theorem mw_X10_draw : Cond.instanceMethod yX10_draw ∈ g_ws := g_tb (i := 543) (by decide +kernel) (by decide)
theorem mk_L_31 : g_MV RL 31 yX10_draw cX10_draw 4 (some .int) 2 := ⟨⟨g_tb (i := 542) (by decide +kernel) (by decide), ini_RX10, cd_X10_draw, ⟨by decide, by decide⟩, by decide +kernel⟩, mw_X10_draw, sl_X10_draw⟩
theorem cd_X10_sprites : Cond.code yX10_sprites cX10_sprites 1 (some .int) ∈ g_ws := g_tb (i := 566) (by decide +kernel) (by decide)
theorem sl_X10_sprites : Cond.selects yX10_sprites.cls yX10_sprites yX10_sprites ∈ g_ws := g_tb (i := 565) (by decide +kernel) (by decide)
theorem mw_X10_sprites : Cond.instanceMethod yX10_sprites ∈ g_ws := g_tb (i := 564) (by decide +kernel) (by decide)
theorem mk_L_36 : g_MV RL 36 yX10_sprites cX10_sprites 1 (some .int) 0 := ⟨⟨g_tb (i := 563) (by decide +kernel) (by decide), ini_RX10, cd_X10_sprites, ⟨by decide, by decide⟩, by decide +kernel⟩, mw_X10_sprites, sl_X10_sprites⟩
theorem mk_L_40 : g_MV RL 40 yX10_width cX10_width 2 (some .int) 1 := ⟨⟨g_tb (i := 567) (by decide +kernel) (by decide), ini_RX10, cd_X10_width, ⟨by decide, by decide⟩, by decide +kernel⟩, mw_X10_width, sl_X10_width⟩
theorem mk_L_44 : g_MV RL 44 yX10_height cX10_height 2 (some .int) 1 := ⟨⟨g_tb (i := 572) (by decide +kernel) (by decide), ini_RX10, cd_X10_height, ⟨by decide, by decide⟩, by decide +kernel⟩, mw_X10_height, sl_X10_height⟩
theorem mk_L_48 : g_MV RL 48 yX10_color cX10_color 4 (some .int) 3 := ⟨⟨g_tb (i := 576) (by decide +kernel) (by decide), ini_RX10, cd_X10_color, ⟨by decide, by decide⟩, by decide +kernel⟩, mw_X10_color, sl_X10_color⟩
theorem cd_X10_setPixel : Cond.code yX10_setPixel cX10_setPixel 6 (some .int) ∈ g_ws := g_tb (i := 585) (by decide +kernel) (by decide)
theorem sl_X10_setPixel : Cond.selects yX10_setPixel.cls yX10_setPixel yX10_setPixel ∈ g_ws := g_tb (i := 584) (by decide +kernel) (by decide)
theorem mw_X10_setPixel : Cond.instanceMethod yX10_setPixel ∈ g_ws := g_tb (i := 583) (by decide +kernel) (by decide)
theorem mk_L_53 : g_MV RL 53 yX10_setPixel cX10_setPixel 6 (some .int) 4 := ⟨⟨g_tb (i := 582) (by decide +kernel) (by decide), ini_RX10, cd_X10_setPixel, ⟨by decide, by decide⟩, by decide +kernel⟩, mw_X10_setPixel, sl_X10_setPixel⟩
theorem cd_X10_drop : Cond.code yX10_drop cX10_drop 2 (some .int) ∈ g_ws := g_tb (i := 597) (by decide +kernel) (by decide)
theorem sl_X10_drop : Cond.selects yX10_drop.cls yX10_drop yX10_drop ∈ g_ws := g_tb (i := 596) (by decide +kernel) (by decide)
theorem mw_X10_drop : Cond.instanceMethod yX10_drop ∈ g_ws := g_tb (i := 595) (by decide +kernel) (by decide)
theorem mk_L_58 : g_MV RL 58 yX10_drop cX10_drop 2 (some .int) 1 := ⟨⟨g_tb (i := 594) (by decide +kernel) (by decide), ini_RX10, cd_X10_drop, ⟨by decide, by decide⟩, by decide +kernel⟩, mw_X10_drop, sl_X10_drop⟩
theorem cd_X10_setGroup : Cond.code yX10_setGroup cX10_setGroup 4 (some .int) ∈ g_ws := g_tb (i := 605) (by decide +kernel) (by decide)
theorem sl_X10_setGroup : Cond.selects yX10_setGroup.cls yX10_setGroup yX10_setGroup ∈ g_ws := g_tb (i := 604) (by decide +kernel) (by decide)
theorem mw_X10_setGroup : Cond.instanceMethod yX10_setGroup ∈ g_ws := g_tb (i := 603) (by decide +kernel) (by decide)
theorem mk_L_62 : g_MV RL 62 yX10_setGroup cX10_setGroup 4 (some .int) 2 := ⟨⟨g_tb (i := 602) (by decide +kernel) (by decide), ini_RX10, cd_X10_setGroup, ⟨by decide, by decide⟩, by decide +kernel⟩, mw_X10_setGroup, sl_X10_setGroup⟩
theorem mk_L_66 : g_MV RL 66 yX10_groupOf cX10_groupOf 2 (some .int) 1 := ⟨⟨g_tb (i := 606) (by decide +kernel) (by decide), ini_RX10, cd_X10_groupOf, ⟨by decide, by decide⟩, by decide +kernel⟩, mw_X10_groupOf, sl_X10_groupOf⟩
theorem mk_L_70 : g_MV RL 70 yX10_trimLeft cX10_trimLeft 2 (some .int) 1 := ⟨⟨g_tb (i := 610) (by decide +kernel) (by decide), ini_RX10, cd_X10_trimLeft, ⟨by decide, by decide⟩, by decide +kernel⟩, mw_X10_trimLeft, sl_X10_trimLeft⟩
theorem mk_L_74 : g_MV RL 74 yX10_trimTop cX10_trimTop 2 (some .int) 1 := ⟨⟨g_tb (i := 614) (by decide +kernel) (by decide), ini_RX10, cd_X10_trimTop, ⟨by decide, by decide⟩, by decide +kernel⟩, mw_X10_trimTop, sl_X10_trimTop⟩
theorem mk_L_78 : g_MV RL 78 yX10_trimWidth cX10_trimWidth 2 (some .int) 1 := ⟨⟨g_tb (i := 618) (by decide +kernel) (by decide), ini_RX10, cd_X10_trimWidth, ⟨by decide, by decide⟩, by decide +kernel⟩, mw_X10_trimWidth, sl_X10_trimWidth⟩
theorem mk_L_82 : g_MV RL 82 yX10_trimHeight cX10_trimHeight 2 (some .int) 1 := ⟨⟨g_tb (i := 622) (by decide +kernel) (by decide), ini_RX10, cd_X10_trimHeight, ⟨by decide, by decide⟩, by decide +kernel⟩, mw_X10_trimHeight, sl_X10_trimHeight⟩
theorem mk_L_86 : g_MV RL 86 yX10_originalOf cX10_originalOf 2 (some .int) 1 := ⟨⟨g_tb (i := 626) (by decide +kernel) (by decide), ini_RX10, cd_X10_originalOf, ⟨by decide, by decide⟩, by decide +kernel⟩, mw_X10_originalOf, sl_X10_originalOf⟩
theorem mk_L_90 : g_MV RL 90 yX10_orientationOf cX10_orientationOf 2 (some .int) 1 := ⟨⟨g_tb (i := 630) (by decide +kernel) (by decide), ini_RX10, cd_X10_orientationOf, ⟨by decide, by decide⟩, by decide +kernel⟩, mw_X10_orientationOf, sl_X10_orientationOf⟩
theorem cd_X10_setPageSize : Cond.code yX10_setPageSize cX10_setPageSize 4 (some .int) ∈ g_ws := g_tb (i := 637) (by decide +kernel) (by decide)
theorem sl_X10_setPageSize : Cond.selects yX10_setPageSize.cls yX10_setPageSize yX10_setPageSize ∈ g_ws := g_tb (i := 636) (by decide +kernel) (by decide)
theorem mw_X10_setPageSize : Cond.instanceMethod yX10_setPageSize ∈ g_ws := g_tb (i := 635) (by decide +kernel) (by decide)
theorem mk_L_94 : g_MV RL 94 yX10_setPageSize cX10_setPageSize 4 (some .int) 2 := ⟨⟨g_tb (i := 634) (by decide +kernel) (by decide), ini_RX10, cd_X10_setPageSize, ⟨by decide, by decide⟩, by decide +kernel⟩, mw_X10_setPageSize, sl_X10_setPageSize⟩
theorem cd_X10_setPageLimit : Cond.code yX10_setPageLimit cX10_setPageLimit 3 (some .int) ∈ g_ws := g_tb (i := 641) (by decide +kernel) (by decide)
theorem sl_X10_setPageLimit : Cond.selects yX10_setPageLimit.cls yX10_setPageLimit yX10_setPageLimit ∈ g_ws := g_tb (i := 640) (by decide +kernel) (by decide)
theorem mw_X10_setPageLimit : Cond.instanceMethod yX10_setPageLimit ∈ g_ws := g_tb (i := 639) (by decide +kernel) (by decide)
theorem mk_L_98 : g_MV RL 98 yX10_setPageLimit cX10_setPageLimit 3 (some .int) 1 := ⟨⟨g_tb (i := 638) (by decide +kernel) (by decide), ini_RX10, cd_X10_setPageLimit, ⟨by decide, by decide⟩, by decide +kernel⟩, mw_X10_setPageLimit, sl_X10_setPageLimit⟩
theorem cd_X10_setMargins : Cond.code yX10_setMargins cX10_setMargins 6 (some .int) ∈ g_ws := g_tb (i := 645) (by decide +kernel) (by decide)
theorem sl_X10_setMargins : Cond.selects yX10_setMargins.cls yX10_setMargins yX10_setMargins ∈ g_ws := g_tb (i := 644) (by decide +kernel) (by decide)
theorem mw_X10_setMargins : Cond.instanceMethod yX10_setMargins ∈ g_ws := g_tb (i := 643) (by decide +kernel) (by decide)
theorem mk_L_102 : g_MV RL 102 yX10_setMargins cX10_setMargins 6 (some .int) 3 := ⟨⟨g_tb (i := 642) (by decide +kernel) (by decide), ini_RX10, cd_X10_setMargins, ⟨by decide, by decide⟩, by decide +kernel⟩, mw_X10_setMargins, sl_X10_setMargins⟩
theorem cd_X10_setTrimming : Cond.code yX10_setTrimming cX10_setTrimming 3 (some .int) ∈ g_ws := g_tb (i := 649) (by decide +kernel) (by decide)
theorem sl_X10_setTrimming : Cond.selects yX10_setTrimming.cls yX10_setTrimming yX10_setTrimming ∈ g_ws := g_tb (i := 648) (by decide +kernel) (by decide)
theorem mw_X10_setTrimming : Cond.instanceMethod yX10_setTrimming ∈ g_ws := g_tb (i := 647) (by decide +kernel) (by decide)
theorem mk_L_106 : g_MV RL 106 yX10_setTrimming cX10_setTrimming 3 (some .int) 1 := ⟨⟨g_tb (i := 646) (by decide +kernel) (by decide), ini_RX10, cd_X10_setTrimming, ⟨by decide, by decide⟩, by decide +kernel⟩, mw_X10_setTrimming, sl_X10_setTrimming⟩
theorem cd_X10_setMatching : Cond.code yX10_setMatching cX10_setMatching 3 (some .int) ∈ g_ws := g_tb (i := 656) (by decide +kernel) (by decide)
theorem sl_X10_setMatching : Cond.selects yX10_setMatching.cls yX10_setMatching yX10_setMatching ∈ g_ws := g_tb (i := 655) (by decide +kernel) (by decide)
theorem mw_X10_setMatching : Cond.instanceMethod yX10_setMatching ∈ g_ws := g_tb (i := 654) (by decide +kernel) (by decide)
theorem mk_L_111 : g_MV RL 111 yX10_setMatching cX10_setMatching 3 (some .int) 1 := ⟨⟨g_tb (i := 653) (by decide +kernel) (by decide), ini_RX10, cd_X10_setMatching, ⟨by decide, by decide⟩, by decide +kernel⟩, mw_X10_setMatching, sl_X10_setMatching⟩
theorem cd_X10_setRotation : Cond.code yX10_setRotation cX10_setRotation 3 (some .int) ∈ g_ws := g_tb (i := 660) (by decide +kernel) (by decide)
theorem sl_X10_setRotation : Cond.selects yX10_setRotation.cls yX10_setRotation yX10_setRotation ∈ g_ws := g_tb (i := 659) (by decide +kernel) (by decide)
theorem mw_X10_setRotation : Cond.instanceMethod yX10_setRotation ∈ g_ws := g_tb (i := 658) (by decide +kernel) (by decide)
theorem mk_L_115 : g_MV RL 115 yX10_setRotation cX10_setRotation 3 (some .int) 1 := ⟨⟨g_tb (i := 657) (by decide +kernel) (by decide), ini_RX10, cd_X10_setRotation, ⟨by decide, by decide⟩, by decide +kernel⟩, mw_X10_setRotation, sl_X10_setRotation⟩
theorem cd_X10_setGrouped : Cond.code yX10_setGrouped cX10_setGrouped 3 (some .int) ∈ g_ws := g_tb (i := 664) (by decide +kernel) (by decide)
theorem sl_X10_setGrouped : Cond.selects yX10_setGrouped.cls yX10_setGrouped yX10_setGrouped ∈ g_ws := g_tb (i := 663) (by decide +kernel) (by decide)
theorem mw_X10_setGrouped : Cond.instanceMethod yX10_setGrouped ∈ g_ws := g_tb (i := 662) (by decide +kernel) (by decide)
theorem mk_L_119 : g_MV RL 119 yX10_setGrouped cX10_setGrouped 3 (some .int) 1 := ⟨⟨g_tb (i := 661) (by decide +kernel) (by decide), ini_RX10, cd_X10_setGrouped, ⟨by decide, by decide⟩, by decide +kernel⟩, mw_X10_setGrouped, sl_X10_setGrouped⟩
theorem cd_X10_setOrder : Cond.code yX10_setOrder cX10_setOrder 3 (some .int) ∈ g_ws := g_tb (i := 668) (by decide +kernel) (by decide)
theorem sl_X10_setOrder : Cond.selects yX10_setOrder.cls yX10_setOrder yX10_setOrder ∈ g_ws := g_tb (i := 667) (by decide +kernel) (by decide)
theorem mw_X10_setOrder : Cond.instanceMethod yX10_setOrder ∈ g_ws := g_tb (i := 666) (by decide +kernel) (by decide)
theorem mk_L_123 : g_MV RL 123 yX10_setOrder cX10_setOrder 3 (some .int) 1 := ⟨⟨g_tb (i := 665) (by decide +kernel) (by decide), ini_RX10, cd_X10_setOrder, ⟨by decide, by decide⟩, by decide +kernel⟩, mw_X10_setOrder, sl_X10_setOrder⟩
theorem cd_X10_setWay : Cond.code yX10_setWay cX10_setWay 3 (some .int) ∈ g_ws := g_tb (i := 672) (by decide +kernel) (by decide)
theorem sl_X10_setWay : Cond.selects yX10_setWay.cls yX10_setWay yX10_setWay ∈ g_ws := g_tb (i := 671) (by decide +kernel) (by decide)
theorem mw_X10_setWay : Cond.instanceMethod yX10_setWay ∈ g_ws := g_tb (i := 670) (by decide +kernel) (by decide)
theorem mk_L_127 : g_MV RL 127 yX10_setWay cX10_setWay 3 (some .int) 1 := ⟨⟨g_tb (i := 669) (by decide +kernel) (by decide), ini_RX10, cd_X10_setWay, ⟨by decide, by decide⟩, by decide +kernel⟩, mw_X10_setWay, sl_X10_setWay⟩
theorem cd_X10_pack : Cond.code yX10_pack cX10_pack 1 (some .int) ∈ g_ws := g_tb (i := 676) (by decide +kernel) (by decide)
theorem sl_X10_pack : Cond.selects yX10_pack.cls yX10_pack yX10_pack ∈ g_ws := g_tb (i := 675) (by decide +kernel) (by decide)
theorem mw_X10_pack : Cond.instanceMethod yX10_pack ∈ g_ws := g_tb (i := 674) (by decide +kernel) (by decide)
theorem mk_L_131 : g_MV RL 131 yX10_pack cX10_pack 1 (some .int) 0 := ⟨⟨g_tb (i := 673) (by decide +kernel) (by decide), ini_RX10, cd_X10_pack, ⟨by decide, by decide⟩, by decide +kernel⟩, mw_X10_pack, sl_X10_pack⟩
theorem cd_X10_insert : Cond.code yX10_insert cX10_insert 2 (some .int) ∈ g_ws := g_tb (i := 821) (by decide +kernel) (by decide)
theorem sl_X10_insert : Cond.selects yX10_insert.cls yX10_insert yX10_insert ∈ g_ws := g_tb (i := 820) (by decide +kernel) (by decide)
theorem mw_X10_insert : Cond.instanceMethod yX10_insert ∈ g_ws := g_tb (i := 819) (by decide +kernel) (by decide)
theorem mk_L_135 : g_MV RL 135 yX10_insert cX10_insert 2 (some .int) 1 := ⟨⟨g_tb (i := 818) (by decide +kernel) (by decide), ini_RX10, cd_X10_insert, ⟨by decide, by decide⟩, by decide +kernel⟩, mw_X10_insert, sl_X10_insert⟩
theorem cd_X10_unplace : Cond.code yX10_unplace cX10_unplace 3 (some .int) ∈ g_ws := g_tb (i := 828) (by decide +kernel) (by decide)
theorem sl_X10_unplace : Cond.selects yX10_unplace.cls yX10_unplace yX10_unplace ∈ g_ws := g_tb (i := 827) (by decide +kernel) (by decide)
theorem mw_X10_unplace : Cond.instanceMethod yX10_unplace ∈ g_ws := g_tb (i := 826) (by decide +kernel) (by decide)
theorem mk_L_139 : g_MV RL 139 yX10_unplace cX10_unplace 3 (some .int) 1 := ⟨⟨g_tb (i := 825) (by decide +kernel) (by decide), ini_RX10, cd_X10_unplace, ⟨by decide, by decide⟩, by decide +kernel⟩, mw_X10_unplace, sl_X10_unplace⟩
theorem cd_X10_undo : Cond.code yX10_undo cX10_undo 1 (some .int) ∈ g_ws := g_tb (i := 833) (by decide +kernel) (by decide)
theorem sl_X10_undo : Cond.selects yX10_undo.cls yX10_undo yX10_undo ∈ g_ws := g_tb (i := 832) (by decide +kernel) (by decide)
theorem mw_X10_undo : Cond.instanceMethod yX10_undo ∈ g_ws := g_tb (i := 831) (by decide +kernel) (by decide)
theorem mk_L_143 : g_MV RL 143 yX10_undo cX10_undo 1 (some .int) 0 := ⟨⟨g_tb (i := 830) (by decide +kernel) (by decide), ini_RX10, cd_X10_undo, ⟨by decide, by decide⟩, by decide +kernel⟩, mw_X10_undo, sl_X10_undo⟩
theorem mk_L_147 : g_MV RL 147 yX10_pageOf cX10_pageOf 2 (some .int) 1 := ⟨⟨g_tb (i := 842) (by decide +kernel) (by decide), ini_RX10, cd_X10_pageOf, ⟨by decide, by decide⟩, by decide +kernel⟩, mw_X10_pageOf, sl_X10_pageOf⟩
theorem mk_L_151 : g_MV RL 151 yX10_xOf cX10_xOf 2 (some .int) 1 := ⟨⟨g_tb (i := 854) (by decide +kernel) (by decide), ini_RX10, cd_X10_xOf, ⟨by decide, by decide⟩, by decide +kernel⟩, mw_X10_xOf, sl_X10_xOf⟩
theorem mk_L_155 : g_MV RL 155 yX10_yOf cX10_yOf 2 (some .int) 1 := ⟨⟨g_tb (i := 862) (by decide +kernel) (by decide), ini_RX10, cd_X10_yOf, ⟨by decide, by decide⟩, by decide +kernel⟩, mw_X10_yOf, sl_X10_yOf⟩
theorem mk_L_159 : g_MV RL 159 yX10_isTurned cX10_isTurned 2 (some .int) 1 := ⟨⟨g_tb (i := 870) (by decide +kernel) (by decide), ini_RX10, cd_X10_isTurned, ⟨by decide, by decide⟩, by decide +kernel⟩, mw_X10_isTurned, sl_X10_isTurned⟩
theorem mk_L_163 : g_MV RL 163 yX10_recordOf cX10_recordOf 3 (some .int) 1 := ⟨⟨g_tb (i := 874) (by decide +kernel) (by decide), ini_RX10, cd_X10_recordOf, ⟨by decide, by decide⟩, by decide +kernel⟩, mw_X10_recordOf, sl_X10_recordOf⟩
theorem cd_X10_pages : Cond.code yX10_pages cX10_pages 1 (some .int) ∈ g_ws := g_tb (i := 888) (by decide +kernel) (by decide)
theorem sl_X10_pages : Cond.selects yX10_pages.cls yX10_pages yX10_pages ∈ g_ws := g_tb (i := 887) (by decide +kernel) (by decide)
theorem mw_X10_pages : Cond.instanceMethod yX10_pages ∈ g_ws := g_tb (i := 886) (by decide +kernel) (by decide)
theorem mk_L_167 : g_MV RL 167 yX10_pages cX10_pages 1 (some .int) 0 := ⟨⟨g_tb (i := 885) (by decide +kernel) (by decide), ini_RX10, cd_X10_pages, ⟨by decide, by decide⟩, by decide +kernel⟩, mw_X10_pages, sl_X10_pages⟩
theorem cd_X10_pixel : Cond.code yX10_pixel cX10_pixel 4 (some .int) ∈ g_ws := g_tb (i := 892) (by decide +kernel) (by decide)
theorem sl_X10_pixel : Cond.selects yX10_pixel.cls yX10_pixel yX10_pixel ∈ g_ws := g_tb (i := 891) (by decide +kernel) (by decide)
theorem mw_X10_pixel : Cond.instanceMethod yX10_pixel ∈ g_ws := g_tb (i := 890) (by decide +kernel) (by decide)
theorem mk_L_171 : g_MV RL 171 yX10_pixel cX10_pixel 4 (some .int) 3 := ⟨⟨g_tb (i := 889) (by decide +kernel) (by decide), ini_RX10, cd_X10_pixel, ⟨by decide, by decide⟩, by decide +kernel⟩, mw_X10_pixel, sl_X10_pixel⟩
theorem cd_X10_spriteAt : Cond.code yX10_spriteAt cX10_spriteAt 4 (some .int) ∈ g_ws := g_tb (i := 923) (by decide +kernel) (by decide)
theorem sl_X10_spriteAt : Cond.selects yX10_spriteAt.cls yX10_spriteAt yX10_spriteAt ∈ g_ws := g_tb (i := 922) (by decide +kernel) (by decide)
theorem mw_X10_spriteAt : Cond.instanceMethod yX10_spriteAt ∈ g_ws := g_tb (i := 921) (by decide +kernel) (by decide)
theorem mk_L_175 : g_MV RL 175 yX10_spriteAt cX10_spriteAt 4 (some .int) 3 := ⟨⟨g_tb (i := 920) (by decide +kernel) (by decide), ini_RX10, cd_X10_spriteAt, ⟨by decide, by decide⟩, by decide +kernel⟩, mw_X10_spriteAt, sl_X10_spriteAt⟩
theorem mk_L_179 : g_MV RL 179 yX10_usedWidth cX10_usedWidth 2 (some .int) 1 := ⟨⟨g_tb (i := 925) (by decide +kernel) (by decide), ini_RX10, cd_X10_usedWidth, ⟨by decide, by decide⟩, by decide +kernel⟩, mw_X10_usedWidth, sl_X10_usedWidth⟩
theorem mk_L_183 : g_MV RL 183 yX10_usedHeight cX10_usedHeight 2 (some .int) 1 := ⟨⟨g_tb (i := 933) (by decide +kernel) (by decide), ini_RX10, cd_X10_usedHeight, ⟨by decide, by decide⟩, by decide +kernel⟩, mw_X10_usedHeight, sl_X10_usedHeight⟩
theorem mk_L_187 : g_MV RL 187 yX10_freeRectangles cX10_freeRectangles 2 (some .int) 1 := ⟨⟨g_tb (i := 941) (by decide +kernel) (by decide), ini_RX10, cd_X10_freeRectangles, ⟨by decide, by decide⟩, by decide +kernel⟩, mw_X10_freeRectangles, sl_X10_freeRectangles⟩
theorem cd_X10_freeX : Cond.code yX10_freeX cX10_freeX 3 (some .int) ∈ g_ws := g_tb (i := 948) (by decide +kernel) (by decide)
theorem sl_X10_freeX : Cond.selects yX10_freeX.cls yX10_freeX yX10_freeX ∈ g_ws := g_tb (i := 947) (by decide +kernel) (by decide)
theorem mw_X10_freeX : Cond.instanceMethod yX10_freeX ∈ g_ws := g_tb (i := 946) (by decide +kernel) (by decide)
theorem mk_L_191 : g_MV RL 191 yX10_freeX cX10_freeX 3 (some .int) 2 := ⟨⟨g_tb (i := 945) (by decide +kernel) (by decide), ini_RX10, cd_X10_freeX, ⟨by decide, by decide⟩, by decide +kernel⟩, mw_X10_freeX, sl_X10_freeX⟩
theorem cd_X10_freeY : Cond.code yX10_freeY cX10_freeY 3 (some .int) ∈ g_ws := g_tb (i := 958) (by decide +kernel) (by decide)
theorem sl_X10_freeY : Cond.selects yX10_freeY.cls yX10_freeY yX10_freeY ∈ g_ws := g_tb (i := 957) (by decide +kernel) (by decide)
theorem mw_X10_freeY : Cond.instanceMethod yX10_freeY ∈ g_ws := g_tb (i := 956) (by decide +kernel) (by decide)
theorem mk_L_195 : g_MV RL 195 yX10_freeY cX10_freeY 3 (some .int) 2 := ⟨⟨g_tb (i := 955) (by decide +kernel) (by decide), ini_RX10, cd_X10_freeY, ⟨by decide, by decide⟩, by decide +kernel⟩, mw_X10_freeY, sl_X10_freeY⟩
theorem cd_X10_freeWidth : Cond.code yX10_freeWidth cX10_freeWidth 3 (some .int) ∈ g_ws := g_tb (i := 963) (by decide +kernel) (by decide)
theorem sl_X10_freeWidth : Cond.selects yX10_freeWidth.cls yX10_freeWidth yX10_freeWidth ∈ g_ws := g_tb (i := 962) (by decide +kernel) (by decide)
theorem mw_X10_freeWidth : Cond.instanceMethod yX10_freeWidth ∈ g_ws := g_tb (i := 961) (by decide +kernel) (by decide)
theorem mk_L_199 : g_MV RL 199 yX10_freeWidth cX10_freeWidth 3 (some .int) 2 := ⟨⟨g_tb (i := 960) (by decide +kernel) (by decide), ini_RX10, cd_X10_freeWidth, ⟨by decide, by decide⟩, by decide +kernel⟩, mw_X10_freeWidth, sl_X10_freeWidth⟩
theorem cd_X10_freeHeight : Cond.code yX10_freeHeight cX10_freeHeight 3 (some .int) ∈ g_ws := g_tb (i := 968) (by decide +kernel) (by decide)
theorem sl_X10_freeHeight : Cond.selects yX10_freeHeight.cls yX10_freeHeight yX10_freeHeight ∈ g_ws := g_tb (i := 967) (by decide +kernel) (by decide)
theorem mw_X10_freeHeight : Cond.instanceMethod yX10_freeHeight ∈ g_ws := g_tb (i := 966) (by decide +kernel) (by decide)
theorem mk_L_203 : g_MV RL 203 yX10_freeHeight cX10_freeHeight 3 (some .int) 2 := ⟨⟨g_tb (i := 965) (by decide +kernel) (by decide), ini_RX10, cd_X10_freeHeight, ⟨by decide, by decide⟩, by decide +kernel⟩, mw_X10_freeHeight, sl_X10_freeHeight⟩
theorem cd_X10_fill : Cond.code yX10_fill cX10_fill 6 (some .int) ∈ g_ws := g_tb (i := 973) (by decide +kernel) (by decide)
theorem sl_X10_fill : Cond.selects yX10_fill.cls yX10_fill yX10_fill ∈ g_ws := g_tb (i := 972) (by decide +kernel) (by decide)
theorem mw_X10_fill : Cond.instanceMethod yX10_fill ∈ g_ws := g_tb (i := 971) (by decide +kernel) (by decide)
theorem mk_L_207 : g_MV RL 207 yX10_fill cX10_fill 6 (some .int) 2 := ⟨⟨g_tb (i := 970) (by decide +kernel) (by decide), ini_RX10, cd_X10_fill, ⟨by decide, by decide⟩, by decide +kernel⟩, mw_X10_fill, sl_X10_fill⟩
theorem cd_X10_unplaced : Cond.code yX10_unplaced cX10_unplaced 3 (some .int) ∈ g_ws := g_tb (i := 984) (by decide +kernel) (by decide)
theorem sl_X10_unplaced : Cond.selects yX10_unplaced.cls yX10_unplaced yX10_unplaced ∈ g_ws := g_tb (i := 983) (by decide +kernel) (by decide)
theorem mw_X10_unplaced : Cond.instanceMethod yX10_unplaced ∈ g_ws := g_tb (i := 982) (by decide +kernel) (by decide)
theorem mk_L_212 : g_MV RL 212 yX10_unplaced cX10_unplaced 3 (some .int) 0 := ⟨⟨g_tb (i := 981) (by decide +kernel) (by decide), ini_RX10, cd_X10_unplaced, ⟨by decide, by decide⟩, by decide +kernel⟩, mw_X10_unplaced, sl_X10_unplaced⟩
theorem cd_X10_pageBound : Cond.code yX10_pageBound cX10_pageBound 3 (some .int) ∈ g_ws := g_tb (i := 988) (by decide +kernel) (by decide)
theorem sl_X10_pageBound : Cond.selects yX10_pageBound.cls yX10_pageBound yX10_pageBound ∈ g_ws := g_tb (i := 987) (by decide +kernel) (by decide)
theorem mw_X10_pageBound : Cond.instanceMethod yX10_pageBound ∈ g_ws := g_tb (i := 986) (by decide +kernel) (by decide)
theorem mk_L_216 : g_MV RL 216 yX10_pageBound cX10_pageBound 3 (some .int) 0 := ⟨⟨g_tb (i := 985) (by decide +kernel) (by decide), ini_RX10, cd_X10_pageBound, ⟨by decide, by decide⟩, by decide +kernel⟩, mw_X10_pageBound, sl_X10_pageBound⟩
theorem cd_X10_bestMethod : Cond.code yX10_bestMethod cX10_bestMethod 8 (some .int) ∈ g_ws := g_tb (i := 997) (by decide +kernel) (by decide)
theorem sl_X10_bestMethod : Cond.selects yX10_bestMethod.cls yX10_bestMethod yX10_bestMethod ∈ g_ws := g_tb (i := 996) (by decide +kernel) (by decide)
theorem mw_X10_bestMethod : Cond.instanceMethod yX10_bestMethod ∈ g_ws := g_tb (i := 995) (by decide +kernel) (by decide)
theorem mk_L_220 : g_MV RL 220 yX10_bestMethod cX10_bestMethod 8 (some .int) 0 := ⟨⟨g_tb (i := 994) (by decide +kernel) (by decide), ini_RX10, cd_X10_bestMethod, ⟨by decide, by decide⟩, by decide +kernel⟩, mw_X10_bestMethod, sl_X10_bestMethod⟩
theorem cd_X10_smallestPage : Cond.code yX10_smallestPage cX10_smallestPage 2 (some .int) ∈ g_ws := g_tb (i := 1009) (by decide +kernel) (by decide)
theorem sl_X10_smallestPage : Cond.selects yX10_smallestPage.cls yX10_smallestPage yX10_smallestPage ∈ g_ws := g_tb (i := 1008) (by decide +kernel) (by decide)
theorem mw_X10_smallestPage : Cond.instanceMethod yX10_smallestPage ∈ g_ws := g_tb (i := 1007) (by decide +kernel) (by decide)
theorem mk_L_224 : g_MV RL 224 yX10_smallestPage cX10_smallestPage 2 (some .int) 0 := ⟨⟨g_tb (i := 1006) (by decide +kernel) (by decide), ini_RX10, cd_X10_smallestPage, ⟨by decide, by decide⟩, by decide +kernel⟩, mw_X10_smallestPage, sl_X10_smallestPage⟩
theorem cd_X10_print : Cond.code yX10_print cX10_print 2 (some .int) ∈ g_ws := g_tb (i := 1013) (by decide +kernel) (by decide)
theorem sl_X10_print : Cond.selects yX10_print.cls yX10_print yX10_print ∈ g_ws := g_tb (i := 1012) (by decide +kernel) (by decide)
theorem mw_X10_print : Cond.instanceMethod yX10_print ∈ g_ws := g_tb (i := 1011) (by decide +kernel) (by decide)
theorem mk_L_228 : g_MV RL 228 yX10_print cX10_print 2 (some .int) 1 := ⟨⟨g_tb (i := 1010) (by decide +kernel) (by decide), ini_RX10, cd_X10_print, ⟨by decide, by decide⟩, by decide +kernel⟩, mw_X10_print, sl_X10_print⟩
theorem mk_X10_340 : g_MV RX10 340 yX0_isBlank cX0_isBlank 2 (some .boolean) 1 := ⟨⟨g_tb (i := 1154) (by decide +kernel) (by decide), ini_RX0, cd_X0_isBlank, ⟨by decide, by decide⟩, by decide +kernel⟩, mw_X0_isBlank, sl_X0_isBlank⟩
theorem cd_X10_printPlace : Cond.code yX10_printPlace cX10_printPlace 2 none ∈ g_ws := g_tb (i := 1198) (by decide +kernel) (by decide)
theorem sl_X10_printPlace : Cond.selects yX10_printPlace.cls yX10_printPlace yX10_printPlace ∈ g_ws := g_sel (i := 27) (q := (yX10_printPlace, 12)) (by decide +kernel) (by decide)
theorem mw_X10_printPlace : Cond.instanceMethod yX10_printPlace ∈ g_ws := g_tb (i := 1197) (by decide +kernel) (by decide)
theorem mk_X10_350 : g_MV RX10 350 yX10_printPlace cX10_printPlace 2 none 1 := ⟨⟨g_tb (i := 1195) (by decide +kernel) (by decide), ini_RX10, cd_X10_printPlace, ⟨by decide, by decide⟩, by decide +kernel⟩, mw_X10_printPlace, sl_X10_printPlace⟩
theorem cd_X10_printed : Cond.code yX10_printed cX10_printed 2 (some .int) ∈ g_ws := g_tb (i := 1218) (by decide +kernel) (by decide)
theorem sl_X10_printed : Cond.selects yX10_printed.cls yX10_printed yX10_printed ∈ g_ws := g_tb (i := 1217) (by decide +kernel) (by decide)
theorem mw_X10_printed : Cond.instanceMethod yX10_printed ∈ g_ws := g_tb (i := 1216) (by decide +kernel) (by decide)
theorem mk_L_232 : g_MV RL 232 yX10_printed cX10_printed 2 (some .int) 1 := ⟨⟨g_tb (i := 1215) (by decide +kernel) (by decide), ini_RX10, cd_X10_printed, ⟨by decide, by decide⟩, by decide +kernel⟩, mw_X10_printed, sl_X10_printed⟩
theorem cd_X10_keep : Cond.code yX10_keep cX10_keep 2 (some .int) ∈ g_ws := g_tb (i := 1234) (by decide +kernel) (by decide)
theorem sl_X10_keep : Cond.selects yX10_keep.cls yX10_keep yX10_keep ∈ g_ws := g_tb (i := 1233) (by decide +kernel) (by decide)
theorem mw_X10_keep : Cond.instanceMethod yX10_keep ∈ g_ws := g_tb (i := 1232) (by decide +kernel) (by decide)
theorem mk_L_236 : g_MV RL 236 yX10_keep cX10_keep 2 (some .int) 1 := ⟨⟨g_tb (i := 1231) (by decide +kernel) (by decide), ini_RX10, cd_X10_keep, ⟨by decide, by decide⟩, by decide +kernel⟩, mw_X10_keep, sl_X10_keep⟩
theorem cd_X10_restore : Cond.code yX10_restore cX10_restore 2 (some .int) ∈ g_ws := g_tb (i := 1242) (by decide +kernel) (by decide)
theorem sl_X10_restore : Cond.selects yX10_restore.cls yX10_restore yX10_restore ∈ g_ws := g_tb (i := 1241) (by decide +kernel) (by decide)
theorem mw_X10_restore : Cond.instanceMethod yX10_restore ∈ g_ws := g_tb (i := 1240) (by decide +kernel) (by decide)
theorem mk_L_240 : g_MV RL 240 yX10_restore cX10_restore 2 (some .int) 1 := ⟨⟨g_tb (i := 1239) (by decide +kernel) (by decide), ini_RX10, cd_X10_restore, ⟨by decide, by decide⟩, by decide +kernel⟩, mw_X10_restore, sl_X10_restore⟩
theorem cd_X10_checksum : Cond.code yX10_checksum cX10_checksum 4 (some .long) ∈ g_ws := g_tb (i := 1246) (by decide +kernel) (by decide)
theorem sl_X10_checksum : Cond.selects yX10_checksum.cls yX10_checksum yX10_checksum ∈ g_ws := g_tb (i := 1245) (by decide +kernel) (by decide)
theorem mw_X10_checksum : Cond.instanceMethod yX10_checksum ∈ g_ws := g_tb (i := 1244) (by decide +kernel) (by decide)
theorem mk_L_244 : g_MV RL 244 yX10_checksum cX10_checksum 4 (some .long) 0 := ⟨⟨g_tb (i := 1243) (by decide +kernel) (by decide), ini_RX10, cd_X10_checksum, ⟨by decide, by decide⟩, by decide +kernel⟩, mw_X10_checksum, sl_X10_checksum⟩
theorem cd_X11_undo : Cond.code yX11_undo cX11_undo 2 (some .int) ∈ g_ws := g_tb (i := 1398) (by decide +kernel) (by decide)
theorem sl_X11_undo : Cond.selects yX11_undo.cls yX11_undo yX11_undo ∈ g_ws := g_tb (i := 1397) (by decide +kernel) (by decide)
theorem mw_X11_undo : Cond.instanceMethod yX11_undo ∈ g_ws := g_tb (i := 1396) (by decide +kernel) (by decide)
theorem mk_L_146 : g_MV RL 146 yX11_undo cX11_undo 2 (some .int) 0 := ⟨⟨g_tb (i := 1395) (by decide +kernel) (by decide), ini_RX11, cd_X11_undo, ⟨by decide, by decide⟩, by decide +kernel⟩, mw_X11_undo, sl_X11_undo⟩
theorem cd_X11_append : Cond.code yX11_append cX11_append 2 (some .int) ∈ g_ws := g_tb (i := 1402) (by decide +kernel) (by decide)
theorem sl_X11_append : Cond.selects yX11_append.cls yX11_append yX11_append ∈ g_ws := g_tb (i := 1401) (by decide +kernel) (by decide)
theorem mw_X11_append : Cond.instanceMethod yX11_append ∈ g_ws := g_tb (i := 1400) (by decide +kernel) (by decide)
theorem mk_L_17 : g_MV RL 17 yX11_append cX11_append 2 (some .int) 1 := ⟨⟨g_tb (i := 1399) (by decide +kernel) (by decide), ini_RX11, cd_X11_append, ⟨by decide, by decide⟩, by decide +kernel⟩, mw_X11_append, sl_X11_append⟩
theorem cd_X11_clearText : Cond.code yX11_clearText cX11_clearText 2 (some .int) ∈ g_ws := g_tb (i := 1409) (by decide +kernel) (by decide)
theorem sl_X11_clearText : Cond.selects yX11_clearText.cls yX11_clearText yX11_clearText ∈ g_ws := g_tb (i := 1408) (by decide +kernel) (by decide)
theorem mw_X11_clearText : Cond.instanceMethod yX11_clearText ∈ g_ws := g_tb (i := 1407) (by decide +kernel) (by decide)
theorem mk_L_22 : g_MV RL 22 yX11_clearText cX11_clearText 2 (some .int) 0 := ⟨⟨g_tb (i := 1406) (by decide +kernel) (by decide), ini_RX11, cd_X11_clearText, ⟨by decide, by decide⟩, by decide +kernel⟩, mw_X11_clearText, sl_X11_clearText⟩
theorem cd_X11_faultPosition : Cond.code yX11_faultPosition cX11_faultPosition 2 (some .int) ∈ g_ws := g_tb (i := 1413) (by decide +kernel) (by decide)
theorem sl_X11_faultPosition : Cond.selects yX11_faultPosition.cls yX11_faultPosition yX11_faultPosition ∈ g_ws := g_tb (i := 1412) (by decide +kernel) (by decide)
theorem mw_X11_faultPosition : Cond.instanceMethod yX11_faultPosition ∈ g_ws := g_tb (i := 1411) (by decide +kernel) (by decide)
theorem mk_L_26 : g_MV RL 26 yX11_faultPosition cX11_faultPosition 2 (some .int) 0 := ⟨⟨g_tb (i := 1410) (by decide +kernel) (by decide), ini_RX11, cd_X11_faultPosition, ⟨by decide, by decide⟩, by decide +kernel⟩, mw_X11_faultPosition, sl_X11_faultPosition⟩
theorem cd_X11_read : Cond.code yX11_read cX11_read 6 (some .int) ∈ g_ws := g_tb (i := 1421) (by decide +kernel) (by decide)
theorem sl_X11_read : Cond.selects yX11_read.cls yX11_read yX11_read ∈ g_ws := g_tb (i := 1420) (by decide +kernel) (by decide)
theorem mw_X11_read : Cond.instanceMethod yX11_read ∈ g_ws := g_tb (i := 1419) (by decide +kernel) (by decide)
theorem mk_L_30 : g_MV RL 30 yX11_read cX11_read 6 (some .int) 0 := ⟨⟨g_tb (i := 1418) (by decide +kernel) (by decide), ini_RX11, cd_X11_read, ⟨by decide, by decide⟩, by decide +kernel⟩, mw_X11_read, sl_X11_read⟩
theorem cd_X11_draw : Cond.code yX11_draw cX11_draw 10 (some .int) ∈ g_ws := g_tb (i := 1439) (by decide +kernel) (by decide)
theorem sl_X11_draw : Cond.selects yX11_draw.cls yX11_draw yX11_draw ∈ g_ws := g_tb (i := 1438) (by decide +kernel) (by decide)
theorem mw_X11_draw : Cond.instanceMethod yX11_draw ∈ g_ws := g_tb (i := 1437) (by decide +kernel) (by decide)
theorem mk_L_35 : g_MV RL 35 yX11_draw cX11_draw 10 (some .int) 2 := ⟨⟨g_tb (i := 1436) (by decide +kernel) (by decide), ini_RX11, cd_X11_draw, ⟨by decide, by decide⟩, by decide +kernel⟩, mw_X11_draw, sl_X11_draw⟩
theorem cd_X11_sprites : Cond.code yX11_sprites cX11_sprites 1 (some .int) ∈ g_ws := g_tb (i := 1451) (by decide +kernel) (by decide)
theorem sl_X11_sprites : Cond.selects yX11_sprites.cls yX11_sprites yX11_sprites ∈ g_ws := g_tb (i := 1450) (by decide +kernel) (by decide)
theorem mw_X11_sprites : Cond.instanceMethod yX11_sprites ∈ g_ws := g_tb (i := 1449) (by decide +kernel) (by decide)
theorem mk_L_39 : g_MV RL 39 yX11_sprites cX11_sprites 1 (some .int) 0 := ⟨⟨g_tb (i := 1448) (by decide +kernel) (by decide), ini_RX11, cd_X11_sprites, ⟨by decide, by decide⟩, by decide +kernel⟩, mw_X11_sprites, sl_X11_sprites⟩
theorem cd_X11_width : Cond.code yX11_width cX11_width 2 (some .int) ∈ g_ws := g_tb (i := 1455) (by decide +kernel) (by decide)
theorem sl_X11_width : Cond.selects yX11_width.cls yX11_width yX11_width ∈ g_ws := g_tb (i := 1454) (by decide +kernel) (by decide)
theorem mw_X11_width : Cond.instanceMethod yX11_width ∈ g_ws := g_tb (i := 1453) (by decide +kernel) (by decide)
theorem mk_L_43 : g_MV RL 43 yX11_width cX11_width 2 (some .int) 1 := ⟨⟨g_tb (i := 1452) (by decide +kernel) (by decide), ini_RX11, cd_X11_width, ⟨by decide, by decide⟩, by decide +kernel⟩, mw_X11_width, sl_X11_width⟩
theorem cd_X11_height : Cond.code yX11_height cX11_height 2 (some .int) ∈ g_ws := g_tb (i := 1463) (by decide +kernel) (by decide)
theorem sl_X11_height : Cond.selects yX11_height.cls yX11_height yX11_height ∈ g_ws := g_tb (i := 1462) (by decide +kernel) (by decide)
theorem mw_X11_height : Cond.instanceMethod yX11_height ∈ g_ws := g_tb (i := 1461) (by decide +kernel) (by decide)
theorem mk_L_47 : g_MV RL 47 yX11_height cX11_height 2 (some .int) 1 := ⟨⟨g_tb (i := 1460) (by decide +kernel) (by decide), ini_RX11, cd_X11_height, ⟨by decide, by decide⟩, by decide +kernel⟩, mw_X11_height, sl_X11_height⟩
theorem cd_X11_color : Cond.code yX11_color cX11_color 4 (some .int) ∈ g_ws := g_tb (i := 1467) (by decide +kernel) (by decide)
theorem sl_X11_color : Cond.selects yX11_color.cls yX11_color yX11_color ∈ g_ws := g_tb (i := 1466) (by decide +kernel) (by decide)
theorem mw_X11_color : Cond.instanceMethod yX11_color ∈ g_ws := g_tb (i := 1465) (by decide +kernel) (by decide)
theorem mk_L_52 : g_MV RL 52 yX11_color cX11_color 4 (some .int) 3 := ⟨⟨g_tb (i := 1464) (by decide +kernel) (by decide), ini_RX11, cd_X11_color, ⟨by decide, by decide⟩, by decide +kernel⟩, mw_X11_color, sl_X11_color⟩
theorem cd_X11_setPixel : Cond.code yX11_setPixel cX11_setPixel 5 (some .int) ∈ g_ws := g_tb (i := 1475) (by decide +kernel) (by decide)
theorem sl_X11_setPixel : Cond.selects yX11_setPixel.cls yX11_setPixel yX11_setPixel ∈ g_ws := g_tb (i := 1474) (by decide +kernel) (by decide)
theorem mw_X11_setPixel : Cond.instanceMethod yX11_setPixel ∈ g_ws := g_tb (i := 1473) (by decide +kernel) (by decide)
theorem mk_L_57 : g_MV RL 57 yX11_setPixel cX11_setPixel 5 (some .int) 4 := ⟨⟨g_tb (i := 1472) (by decide +kernel) (by decide), ini_RX11, cd_X11_setPixel, ⟨by decide, by decide⟩, by decide +kernel⟩, mw_X11_setPixel, sl_X11_setPixel⟩
theorem cd_X11_drop : Cond.code yX11_drop cX11_drop 3 (some .int) ∈ g_ws := g_tb (i := 1487) (by decide +kernel) (by decide)
theorem sl_X11_drop : Cond.selects yX11_drop.cls yX11_drop yX11_drop ∈ g_ws := g_tb (i := 1486) (by decide +kernel) (by decide)
theorem mw_X11_drop : Cond.instanceMethod yX11_drop ∈ g_ws := g_tb (i := 1485) (by decide +kernel) (by decide)
theorem mk_L_61 : g_MV RL 61 yX11_drop cX11_drop 3 (some .int) 1 := ⟨⟨g_tb (i := 1484) (by decide +kernel) (by decide), ini_RX11, cd_X11_drop, ⟨by decide, by decide⟩, by decide +kernel⟩, mw_X11_drop, sl_X11_drop⟩
theorem cd_X11_setGroup : Cond.code yX11_setGroup cX11_setGroup 4 (some .int) ∈ g_ws := g_tb (i := 1491) (by decide +kernel) (by decide)
theorem sl_X11_setGroup : Cond.selects yX11_setGroup.cls yX11_setGroup yX11_setGroup ∈ g_ws := g_tb (i := 1490) (by decide +kernel) (by decide)
theorem mw_X11_setGroup : Cond.instanceMethod yX11_setGroup ∈ g_ws := g_tb (i := 1489) (by decide +kernel) (by decide)
theorem mk_L_65 : g_MV RL 65 yX11_setGroup cX11_setGroup 4 (some .int) 2 := ⟨⟨g_tb (i := 1488) (by decide +kernel) (by decide), ini_RX11, cd_X11_setGroup, ⟨by decide, by decide⟩, by decide +kernel⟩, mw_X11_setGroup, sl_X11_setGroup⟩
theorem cd_X11_groupOf : Cond.code yX11_groupOf cX11_groupOf 2 (some .int) ∈ g_ws := g_tb (i := 1495) (by decide +kernel) (by decide)
theorem sl_X11_groupOf : Cond.selects yX11_groupOf.cls yX11_groupOf yX11_groupOf ∈ g_ws := g_tb (i := 1494) (by decide +kernel) (by decide)
theorem mw_X11_groupOf : Cond.instanceMethod yX11_groupOf ∈ g_ws := g_tb (i := 1493) (by decide +kernel) (by decide)
theorem mk_L_69 : g_MV RL 69 yX11_groupOf cX11_groupOf 2 (some .int) 1 := ⟨⟨g_tb (i := 1492) (by decide +kernel) (by decide), ini_RX11, cd_X11_groupOf, ⟨by decide, by decide⟩, by decide +kernel⟩, mw_X11_groupOf, sl_X11_groupOf⟩
theorem cd_X11_trimLeft : Cond.code yX11_trimLeft cX11_trimLeft 2 (some .int) ∈ g_ws := g_tb (i := 1499) (by decide +kernel) (by decide)
theorem sl_X11_trimLeft : Cond.selects yX11_trimLeft.cls yX11_trimLeft yX11_trimLeft ∈ g_ws := g_tb (i := 1498) (by decide +kernel) (by decide)
theorem mw_X11_trimLeft : Cond.instanceMethod yX11_trimLeft ∈ g_ws := g_tb (i := 1497) (by decide +kernel) (by decide)
theorem mk_L_73 : g_MV RL 73 yX11_trimLeft cX11_trimLeft 2 (some .int) 1 := ⟨⟨g_tb (i := 1496) (by decide +kernel) (by decide), ini_RX11, cd_X11_trimLeft, ⟨by decide, by decide⟩, by decide +kernel⟩, mw_X11_trimLeft, sl_X11_trimLeft⟩
theorem cd_X11_trimTop : Cond.code yX11_trimTop cX11_trimTop 2 (some .int) ∈ g_ws := g_tb (i := 1531) (by decide +kernel) (by decide)
theorem sl_X11_trimTop : Cond.selects yX11_trimTop.cls yX11_trimTop yX11_trimTop ∈ g_ws := g_tb (i := 1530) (by decide +kernel) (by decide)
theorem mw_X11_trimTop : Cond.instanceMethod yX11_trimTop ∈ g_ws := g_tb (i := 1529) (by decide +kernel) (by decide)
theorem mk_L_77 : g_MV RL 77 yX11_trimTop cX11_trimTop 2 (some .int) 1 := ⟨⟨g_tb (i := 1528) (by decide +kernel) (by decide), ini_RX11, cd_X11_trimTop, ⟨by decide, by decide⟩, by decide +kernel⟩, mw_X11_trimTop, sl_X11_trimTop⟩
theorem cd_X11_trimWidth : Cond.code yX11_trimWidth cX11_trimWidth 2 (some .int) ∈ g_ws := g_tb (i := 1535) (by decide +kernel) (by decide)
theorem sl_X11_trimWidth : Cond.selects yX11_trimWidth.cls yX11_trimWidth yX11_trimWidth ∈ g_ws := g_tb (i := 1534) (by decide +kernel) (by decide)
theorem mw_X11_trimWidth : Cond.instanceMethod yX11_trimWidth ∈ g_ws := g_tb (i := 1533) (by decide +kernel) (by decide)
theorem mk_L_81 : g_MV RL 81 yX11_trimWidth cX11_trimWidth 2 (some .int) 1 := ⟨⟨g_tb (i := 1532) (by decide +kernel) (by decide), ini_RX11, cd_X11_trimWidth, ⟨by decide, by decide⟩, by decide +kernel⟩, mw_X11_trimWidth, sl_X11_trimWidth⟩
theorem cd_X11_trimHeight : Cond.code yX11_trimHeight cX11_trimHeight 2 (some .int) ∈ g_ws := g_tb (i := 1539) (by decide +kernel) (by decide)
theorem sl_X11_trimHeight : Cond.selects yX11_trimHeight.cls yX11_trimHeight yX11_trimHeight ∈ g_ws := g_tb (i := 1538) (by decide +kernel) (by decide)
theorem mw_X11_trimHeight : Cond.instanceMethod yX11_trimHeight ∈ g_ws := g_tb (i := 1537) (by decide +kernel) (by decide)
theorem mk_L_85 : g_MV RL 85 yX11_trimHeight cX11_trimHeight 2 (some .int) 1 := ⟨⟨g_tb (i := 1536) (by decide +kernel) (by decide), ini_RX11, cd_X11_trimHeight, ⟨by decide, by decide⟩, by decide +kernel⟩, mw_X11_trimHeight, sl_X11_trimHeight⟩
theorem cd_X11_originalOf : Cond.code yX11_originalOf cX11_originalOf 2 (some .int) ∈ g_ws := g_tb (i := 1543) (by decide +kernel) (by decide)
theorem sl_X11_originalOf : Cond.selects yX11_originalOf.cls yX11_originalOf yX11_originalOf ∈ g_ws := g_tb (i := 1542) (by decide +kernel) (by decide)
theorem mw_X11_originalOf : Cond.instanceMethod yX11_originalOf ∈ g_ws := g_tb (i := 1541) (by decide +kernel) (by decide)
theorem mk_L_89 : g_MV RL 89 yX11_originalOf cX11_originalOf 2 (some .int) 1 := ⟨⟨g_tb (i := 1540) (by decide +kernel) (by decide), ini_RX11, cd_X11_originalOf, ⟨by decide, by decide⟩, by decide +kernel⟩, mw_X11_originalOf, sl_X11_originalOf⟩
theorem cd_X11_orientationOf : Cond.code yX11_orientationOf cX11_orientationOf 2 (some .int) ∈ g_ws := g_tb (i := 1547) (by decide +kernel) (by decide)
theorem sl_X11_orientationOf : Cond.selects yX11_orientationOf.cls yX11_orientationOf yX11_orientationOf ∈ g_ws := g_tb (i := 1546) (by decide +kernel) (by decide)
theorem mw_X11_orientationOf : Cond.instanceMethod yX11_orientationOf ∈ g_ws := g_tb (i := 1545) (by decide +kernel) (by decide)
theorem mk_L_93 : g_MV RL 93 yX11_orientationOf cX11_orientationOf 2 (some .int) 1 := ⟨⟨g_tb (i := 1544) (by decide +kernel) (by decide), ini_RX11, cd_X11_orientationOf, ⟨by decide, by decide⟩, by decide +kernel⟩, mw_X11_orientationOf, sl_X11_orientationOf⟩
theorem cd_X11_setPageSize : Cond.code yX11_setPageSize cX11_setPageSize 4 (some .int) ∈ g_ws := g_tb (i := 1551) (by decide +kernel) (by decide)
theorem sl_X11_setPageSize : Cond.selects yX11_setPageSize.cls yX11_setPageSize yX11_setPageSize ∈ g_ws := g_tb (i := 1550) (by decide +kernel) (by decide)
theorem mw_X11_setPageSize : Cond.instanceMethod yX11_setPageSize ∈ g_ws := g_tb (i := 1549) (by decide +kernel) (by decide)
theorem mk_L_97 : g_MV RL 97 yX11_setPageSize cX11_setPageSize 4 (some .int) 2 := ⟨⟨g_tb (i := 1548) (by decide +kernel) (by decide), ini_RX11, cd_X11_setPageSize, ⟨by decide, by decide⟩, by decide +kernel⟩, mw_X11_setPageSize, sl_X11_setPageSize⟩
theorem cd_X11_setPageLimit : Cond.code yX11_setPageLimit cX11_setPageLimit 2 (some .int) ∈ g_ws := g_tb (i := 1555) (by decide +kernel) (by decide)
theorem sl_X11_setPageLimit : Cond.selects yX11_setPageLimit.cls yX11_setPageLimit yX11_setPageLimit ∈ g_ws := g_tb (i := 1554) (by decide +kernel) (by decide)
theorem mw_X11_setPageLimit : Cond.instanceMethod yX11_setPageLimit ∈ g_ws := g_tb (i := 1553) (by decide +kernel) (by decide)
theorem mk_L_101 : g_MV RL 101 yX11_setPageLimit cX11_setPageLimit 2 (some .int) 1 := ⟨⟨g_tb (i := 1552) (by decide +kernel) (by decide), ini_RX11, cd_X11_setPageLimit, ⟨by decide, by decide⟩, by decide +kernel⟩, mw_X11_setPageLimit, sl_X11_setPageLimit⟩
theorem cd_X11_setMargins : Cond.code yX11_setMargins cX11_setMargins 5 (some .int) ∈ g_ws := g_tb (i := 1559) (by decide +kernel) (by decide)
theorem sl_X11_setMargins : Cond.selects yX11_setMargins.cls yX11_setMargins yX11_setMargins ∈ g_ws := g_tb (i := 1558) (by decide +kernel) (by decide)
theorem mw_X11_setMargins : Cond.instanceMethod yX11_setMargins ∈ g_ws := g_tb (i := 1557) (by decide +kernel) (by decide)
theorem mk_L_105 : g_MV RL 105 yX11_setMargins cX11_setMargins 5 (some .int) 3 := ⟨⟨g_tb (i := 1556) (by decide +kernel) (by decide), ini_RX11, cd_X11_setMargins, ⟨by decide, by decide⟩, by decide +kernel⟩, mw_X11_setMargins, sl_X11_setMargins⟩
theorem cd_X11_setTrimming : Cond.code yX11_setTrimming cX11_setTrimming 2 (some .int) ∈ g_ws := g_tb (i := 1563) (by decide +kernel) (by decide)
theorem sl_X11_setTrimming : Cond.selects yX11_setTrimming.cls yX11_setTrimming yX11_setTrimming ∈ g_ws := g_tb (i := 1562) (by decide +kernel) (by decide)
theorem mw_X11_setTrimming : Cond.instanceMethod yX11_setTrimming ∈ g_ws := g_tb (i := 1561) (by decide +kernel) (by decide)
theorem mk_L_110 : g_MV RL 110 yX11_setTrimming cX11_setTrimming 2 (some .int) 1 := ⟨⟨g_tb (i := 1560) (by decide +kernel) (by decide), ini_RX11, cd_X11_setTrimming, ⟨by decide, by decide⟩, by decide +kernel⟩, mw_X11_setTrimming, sl_X11_setTrimming⟩
theorem cd_X11_setMatching : Cond.code yX11_setMatching cX11_setMatching 2 (some .int) ∈ g_ws := g_tb (i := 1567) (by decide +kernel) (by decide)
theorem sl_X11_setMatching : Cond.selects yX11_setMatching.cls yX11_setMatching yX11_setMatching ∈ g_ws := g_tb (i := 1566) (by decide +kernel) (by decide)
theorem mw_X11_setMatching : Cond.instanceMethod yX11_setMatching ∈ g_ws := g_tb (i := 1565) (by decide +kernel) (by decide)
theorem mk_L_114 : g_MV RL 114 yX11_setMatching cX11_setMatching 2 (some .int) 1 := ⟨⟨g_tb (i := 1564) (by decide +kernel) (by decide), ini_RX11, cd_X11_setMatching, ⟨by decide, by decide⟩, by decide +kernel⟩, mw_X11_setMatching, sl_X11_setMatching⟩
theorem cd_X11_setRotation : Cond.code yX11_setRotation cX11_setRotation 2 (some .int) ∈ g_ws := g_tb (i := 1571) (by decide +kernel) (by decide)
theorem sl_X11_setRotation : Cond.selects yX11_setRotation.cls yX11_setRotation yX11_setRotation ∈ g_ws := g_tb (i := 1570) (by decide +kernel) (by decide)
theorem mw_X11_setRotation : Cond.instanceMethod yX11_setRotation ∈ g_ws := g_tb (i := 1569) (by decide +kernel) (by decide)
theorem mk_L_118 : g_MV RL 118 yX11_setRotation cX11_setRotation 2 (some .int) 1 := ⟨⟨g_tb (i := 1568) (by decide +kernel) (by decide), ini_RX11, cd_X11_setRotation, ⟨by decide, by decide⟩, by decide +kernel⟩, mw_X11_setRotation, sl_X11_setRotation⟩
theorem cd_X11_setGrouped : Cond.code yX11_setGrouped cX11_setGrouped 2 (some .int) ∈ g_ws := g_tb (i := 1575) (by decide +kernel) (by decide)
theorem sl_X11_setGrouped : Cond.selects yX11_setGrouped.cls yX11_setGrouped yX11_setGrouped ∈ g_ws := g_tb (i := 1574) (by decide +kernel) (by decide)
theorem mw_X11_setGrouped : Cond.instanceMethod yX11_setGrouped ∈ g_ws := g_tb (i := 1573) (by decide +kernel) (by decide)
theorem mk_L_122 : g_MV RL 122 yX11_setGrouped cX11_setGrouped 2 (some .int) 1 := ⟨⟨g_tb (i := 1572) (by decide +kernel) (by decide), ini_RX11, cd_X11_setGrouped, ⟨by decide, by decide⟩, by decide +kernel⟩, mw_X11_setGrouped, sl_X11_setGrouped⟩
theorem cd_X11_setOrder : Cond.code yX11_setOrder cX11_setOrder 2 (some .int) ∈ g_ws := g_tb (i := 1579) (by decide +kernel) (by decide)
theorem sl_X11_setOrder : Cond.selects yX11_setOrder.cls yX11_setOrder yX11_setOrder ∈ g_ws := g_tb (i := 1578) (by decide +kernel) (by decide)
theorem mw_X11_setOrder : Cond.instanceMethod yX11_setOrder ∈ g_ws := g_tb (i := 1577) (by decide +kernel) (by decide)
theorem mk_L_126 : g_MV RL 126 yX11_setOrder cX11_setOrder 2 (some .int) 1 := ⟨⟨g_tb (i := 1576) (by decide +kernel) (by decide), ini_RX11, cd_X11_setOrder, ⟨by decide, by decide⟩, by decide +kernel⟩, mw_X11_setOrder, sl_X11_setOrder⟩
theorem cd_X11_setWay : Cond.code yX11_setWay cX11_setWay 2 (some .int) ∈ g_ws := g_tb (i := 1583) (by decide +kernel) (by decide)
theorem sl_X11_setWay : Cond.selects yX11_setWay.cls yX11_setWay yX11_setWay ∈ g_ws := g_tb (i := 1582) (by decide +kernel) (by decide)
theorem mw_X11_setWay : Cond.instanceMethod yX11_setWay ∈ g_ws := g_tb (i := 1581) (by decide +kernel) (by decide)
theorem mk_L_130 : g_MV RL 130 yX11_setWay cX11_setWay 2 (some .int) 1 := ⟨⟨g_tb (i := 1580) (by decide +kernel) (by decide), ini_RX11, cd_X11_setWay, ⟨by decide, by decide⟩, by decide +kernel⟩, mw_X11_setWay, sl_X11_setWay⟩
theorem cd_X11_pack : Cond.code yX11_pack cX11_pack 1 (some .int) ∈ g_ws := g_tb (i := 1587) (by decide +kernel) (by decide)
theorem sl_X11_pack : Cond.selects yX11_pack.cls yX11_pack yX11_pack ∈ g_ws := g_tb (i := 1586) (by decide +kernel) (by decide)
theorem mw_X11_pack : Cond.instanceMethod yX11_pack ∈ g_ws := g_tb (i := 1585) (by decide +kernel) (by decide)
theorem mk_L_134 : g_MV RL 134 yX11_pack cX11_pack 1 (some .int) 0 := ⟨⟨g_tb (i := 1584) (by decide +kernel) (by decide), ini_RX11, cd_X11_pack, ⟨by decide, by decide⟩, by decide +kernel⟩, mw_X11_pack, sl_X11_pack⟩
theorem cd_X11_insert : Cond.code yX11_insert cX11_insert 5 (some .int) ∈ g_ws := g_tb (i := 1671) (by decide +kernel) (by decide)
theorem sl_X11_insert : Cond.selects yX11_insert.cls yX11_insert yX11_insert ∈ g_ws := g_tb (i := 1670) (by decide +kernel) (by decide)
theorem mw_X11_insert : Cond.instanceMethod yX11_insert ∈ g_ws := g_tb (i := 1669) (by decide +kernel) (by decide)
theorem mk_L_138 : g_MV RL 138 yX11_insert cX11_insert 5 (some .int) 1 := ⟨⟨g_tb (i := 1668) (by decide +kernel) (by decide), ini_RX11, cd_X11_insert, ⟨by decide, by decide⟩, by decide +kernel⟩, mw_X11_insert, sl_X11_insert⟩
theorem cd_X11_unplace : Cond.code yX11_unplace cX11_unplace 3 (some .int) ∈ g_ws := g_tb (i := 1687) (by decide +kernel) (by decide)
theorem sl_X11_unplace : Cond.selects yX11_unplace.cls yX11_unplace yX11_unplace ∈ g_ws := g_tb (i := 1686) (by decide +kernel) (by decide)
theorem mw_X11_unplace : Cond.instanceMethod yX11_unplace ∈ g_ws := g_tb (i := 1685) (by decide +kernel) (by decide)
theorem mk_L_142 : g_MV RL 142 yX11_unplace cX11_unplace 3 (some .int) 1 := ⟨⟨g_tb (i := 1684) (by decide +kernel) (by decide), ini_RX11, cd_X11_unplace, ⟨by decide, by decide⟩, by decide +kernel⟩, mw_X11_unplace, sl_X11_unplace⟩
theorem cd_X11_pageOf : Cond.code yX11_pageOf cX11_pageOf 3 (some .int) ∈ g_ws := g_tb (i := 1691) (by decide +kernel) (by decide)
theorem sl_X11_pageOf : Cond.selects yX11_pageOf.cls yX11_pageOf yX11_pageOf ∈ g_ws := g_tb (i := 1690) (by decide +kernel) (by decide)
theorem mw_X11_pageOf : Cond.instanceMethod yX11_pageOf ∈ g_ws := g_tb (i := 1689) (by decide +kernel) (by decide)
theorem mk_L_150 : g_MV RL 150 yX11_pageOf cX11_pageOf 3 (some .int) 1 := ⟨⟨g_tb (i := 1688) (by decide +kernel) (by decide), ini_RX11, cd_X11_pageOf, ⟨by decide, by decide⟩, by decide +kernel⟩, mw_X11_pageOf, sl_X11_pageOf⟩
theorem cd_X11_xOf : Cond.code yX11_xOf cX11_xOf 3 (some .int) ∈ g_ws := g_tb (i := 1699) (by decide +kernel) (by decide)
theorem sl_X11_xOf : Cond.selects yX11_xOf.cls yX11_xOf yX11_xOf ∈ g_ws := g_tb (i := 1698) (by decide +kernel) (by decide)
theorem mw_X11_xOf : Cond.instanceMethod yX11_xOf ∈ g_ws := g_tb (i := 1697) (by decide +kernel) (by decide)
theorem mk_L_154 : g_MV RL 154 yX11_xOf cX11_xOf 3 (some .int) 1 := ⟨⟨g_tb (i := 1696) (by decide +kernel) (by decide), ini_RX11, cd_X11_xOf, ⟨by decide, by decide⟩, by decide +kernel⟩, mw_X11_xOf, sl_X11_xOf⟩
theorem cd_X11_yOf : Cond.code yX11_yOf cX11_yOf 3 (some .int) ∈ g_ws := g_tb (i := 1707) (by decide +kernel) (by decide)
theorem sl_X11_yOf : Cond.selects yX11_yOf.cls yX11_yOf yX11_yOf ∈ g_ws := g_tb (i := 1706) (by decide +kernel) (by decide)
theorem mw_X11_yOf : Cond.instanceMethod yX11_yOf ∈ g_ws := g_tb (i := 1705) (by decide +kernel) (by decide)
theorem mk_L_158 : g_MV RL 158 yX11_yOf cX11_yOf 3 (some .int) 1 := ⟨⟨g_tb (i := 1704) (by decide +kernel) (by decide), ini_RX11, cd_X11_yOf, ⟨by decide, by decide⟩, by decide +kernel⟩, mw_X11_yOf, sl_X11_yOf⟩
theorem cd_X11_isTurned : Cond.code yX11_isTurned cX11_isTurned 3 (some .int) ∈ g_ws := g_tb (i := 1715) (by decide +kernel) (by decide)
theorem sl_X11_isTurned : Cond.selects yX11_isTurned.cls yX11_isTurned yX11_isTurned ∈ g_ws := g_tb (i := 1714) (by decide +kernel) (by decide)
theorem mw_X11_isTurned : Cond.instanceMethod yX11_isTurned ∈ g_ws := g_tb (i := 1713) (by decide +kernel) (by decide)
theorem mk_L_162 : g_MV RL 162 yX11_isTurned cX11_isTurned 3 (some .int) 1 := ⟨⟨g_tb (i := 1712) (by decide +kernel) (by decide), ini_RX11, cd_X11_isTurned, ⟨by decide, by decide⟩, by decide +kernel⟩, mw_X11_isTurned, sl_X11_isTurned⟩
theorem cd_X11_recordOf : Cond.code yX11_recordOf cX11_recordOf 3 (some .int) ∈ g_ws := g_tb (i := 1719) (by decide +kernel) (by decide)
theorem sl_X11_recordOf : Cond.selects yX11_recordOf.cls yX11_recordOf yX11_recordOf ∈ g_ws := g_tb (i := 1718) (by decide +kernel) (by decide)
theorem mw_X11_recordOf : Cond.instanceMethod yX11_recordOf ∈ g_ws := g_tb (i := 1717) (by decide +kernel) (by decide)
theorem mk_L_166 : g_MV RL 166 yX11_recordOf cX11_recordOf 3 (some .int) 1 := ⟨⟨g_tb (i := 1716) (by decide +kernel) (by decide), ini_RX11, cd_X11_recordOf, ⟨by decide, by decide⟩, by decide +kernel⟩, mw_X11_recordOf, sl_X11_recordOf⟩
theorem cd_X11_pages : Cond.code yX11_pages cX11_pages 1 (some .int) ∈ g_ws := g_tb (i := 1727) (by decide +kernel) (by decide)
theorem sl_X11_pages : Cond.selects yX11_pages.cls yX11_pages yX11_pages ∈ g_ws := g_tb (i := 1726) (by decide +kernel) (by decide)
theorem mw_X11_pages : Cond.instanceMethod yX11_pages ∈ g_ws := g_tb (i := 1725) (by decide +kernel) (by decide)
theorem mk_L_170 : g_MV RL 170 yX11_pages cX11_pages 1 (some .int) 0 := ⟨⟨g_tb (i := 1724) (by decide +kernel) (by decide), ini_RX11, cd_X11_pages, ⟨by decide, by decide⟩, by decide +kernel⟩, mw_X11_pages, sl_X11_pages⟩
theorem cd_X11_pixel : Cond.code yX11_pixel cX11_pixel 4 (some .int) ∈ g_ws := g_tb (i := 1731) (by decide +kernel) (by decide)
theorem sl_X11_pixel : Cond.selects yX11_pixel.cls yX11_pixel yX11_pixel ∈ g_ws := g_tb (i := 1730) (by decide +kernel) (by decide)
theorem mw_X11_pixel : Cond.instanceMethod yX11_pixel ∈ g_ws := g_tb (i := 1729) (by decide +kernel) (by decide)
theorem mk_L_174 : g_MV RL 174 yX11_pixel cX11_pixel 4 (some .int) 3 := ⟨⟨g_tb (i := 1728) (by decide +kernel) (by decide), ini_RX11, cd_X11_pixel, ⟨by decide, by decide⟩, by decide +kernel⟩, mw_X11_pixel, sl_X11_pixel⟩
theorem cd_X11_spriteAt : Cond.code yX11_spriteAt cX11_spriteAt 5 (some .int) ∈ g_ws := g_tb (i := 1754) (by decide +kernel) (by decide)
theorem sl_X11_spriteAt : Cond.selects yX11_spriteAt.cls yX11_spriteAt yX11_spriteAt ∈ g_ws := g_tb (i := 1753) (by decide +kernel) (by decide)
theorem mw_X11_spriteAt : Cond.instanceMethod yX11_spriteAt ∈ g_ws := g_tb (i := 1752) (by decide +kernel) (by decide)
theorem mk_L_178 : g_MV RL 178 yX11_spriteAt cX11_spriteAt 5 (some .int) 3 := ⟨⟨g_tb (i := 1751) (by decide +kernel) (by decide), ini_RX11, cd_X11_spriteAt, ⟨by decide, by decide⟩, by decide +kernel⟩, mw_X11_spriteAt, sl_X11_spriteAt⟩
theorem cd_X11_usedWidth : Cond.code yX11_usedWidth cX11_usedWidth 2 (some .int) ∈ g_ws := g_tb (i := 1758) (by decide +kernel) (by decide)
theorem sl_X11_usedWidth : Cond.selects yX11_usedWidth.cls yX11_usedWidth yX11_usedWidth ∈ g_ws := g_tb (i := 1757) (by decide +kernel) (by decide)
theorem mw_X11_usedWidth : Cond.instanceMethod yX11_usedWidth ∈ g_ws := g_tb (i := 1756) (by decide +kernel) (by decide)
theorem mk_L_182 : g_MV RL 182 yX11_usedWidth cX11_usedWidth 2 (some .int) 1 := ⟨⟨g_tb (i := 1755) (by decide +kernel) (by decide), ini_RX11, cd_X11_usedWidth, ⟨by decide, by decide⟩, by decide +kernel⟩, mw_X11_usedWidth, sl_X11_usedWidth⟩
theorem cd_X11_usedHeight : Cond.code yX11_usedHeight cX11_usedHeight 2 (some .int) ∈ g_ws := g_tb (i := 1766) (by decide +kernel) (by decide)
theorem sl_X11_usedHeight : Cond.selects yX11_usedHeight.cls yX11_usedHeight yX11_usedHeight ∈ g_ws := g_tb (i := 1765) (by decide +kernel) (by decide)
theorem mw_X11_usedHeight : Cond.instanceMethod yX11_usedHeight ∈ g_ws := g_tb (i := 1764) (by decide +kernel) (by decide)
theorem mk_L_186 : g_MV RL 186 yX11_usedHeight cX11_usedHeight 2 (some .int) 1 := ⟨⟨g_tb (i := 1763) (by decide +kernel) (by decide), ini_RX11, cd_X11_usedHeight, ⟨by decide, by decide⟩, by decide +kernel⟩, mw_X11_usedHeight, sl_X11_usedHeight⟩
theorem cd_X11_freeRectangles : Cond.code yX11_freeRectangles cX11_freeRectangles 2 (some .int) ∈ g_ws := g_tb (i := 1770) (by decide +kernel) (by decide)
theorem sl_X11_freeRectangles : Cond.selects yX11_freeRectangles.cls yX11_freeRectangles yX11_freeRectangles ∈ g_ws := g_tb (i := 1769) (by decide +kernel) (by decide)
theorem mw_X11_freeRectangles : Cond.instanceMethod yX11_freeRectangles ∈ g_ws := g_tb (i := 1768) (by decide +kernel) (by decide)
theorem mk_L_190 : g_MV RL 190 yX11_freeRectangles cX11_freeRectangles 2 (some .int) 1 := ⟨⟨g_tb (i := 1767) (by decide +kernel) (by decide), ini_RX11, cd_X11_freeRectangles, ⟨by decide, by decide⟩, by decide +kernel⟩, mw_X11_freeRectangles, sl_X11_freeRectangles⟩
theorem cd_X11_freeX : Cond.code yX11_freeX cX11_freeX 3 (some .int) ∈ g_ws := g_tb (i := 1778) (by decide +kernel) (by decide)
theorem sl_X11_freeX : Cond.selects yX11_freeX.cls yX11_freeX yX11_freeX ∈ g_ws := g_tb (i := 1777) (by decide +kernel) (by decide)
theorem mw_X11_freeX : Cond.instanceMethod yX11_freeX ∈ g_ws := g_tb (i := 1776) (by decide +kernel) (by decide)
theorem mk_L_194 : g_MV RL 194 yX11_freeX cX11_freeX 3 (some .int) 2 := ⟨⟨g_tb (i := 1775) (by decide +kernel) (by decide), ini_RX11, cd_X11_freeX, ⟨by decide, by decide⟩, by decide +kernel⟩, mw_X11_freeX, sl_X11_freeX⟩
theorem cd_X11_freeY : Cond.code yX11_freeY cX11_freeY 3 (some .int) ∈ g_ws := g_tb (i := 1782) (by decide +kernel) (by decide)
theorem sl_X11_freeY : Cond.selects yX11_freeY.cls yX11_freeY yX11_freeY ∈ g_ws := g_tb (i := 1781) (by decide +kernel) (by decide)
theorem mw_X11_freeY : Cond.instanceMethod yX11_freeY ∈ g_ws := g_tb (i := 1780) (by decide +kernel) (by decide)
theorem mk_L_198 : g_MV RL 198 yX11_freeY cX11_freeY 3 (some .int) 2 := ⟨⟨g_tb (i := 1779) (by decide +kernel) (by decide), ini_RX11, cd_X11_freeY, ⟨by decide, by decide⟩, by decide +kernel⟩, mw_X11_freeY, sl_X11_freeY⟩
theorem cd_X11_freeWidth : Cond.code yX11_freeWidth cX11_freeWidth 3 (some .int) ∈ g_ws := g_tb (i := 1786) (by decide +kernel) (by decide)
theorem sl_X11_freeWidth : Cond.selects yX11_freeWidth.cls yX11_freeWidth yX11_freeWidth ∈ g_ws := g_tb (i := 1785) (by decide +kernel) (by decide)
theorem mw_X11_freeWidth : Cond.instanceMethod yX11_freeWidth ∈ g_ws := g_tb (i := 1784) (by decide +kernel) (by decide)
theorem mk_L_202 : g_MV RL 202 yX11_freeWidth cX11_freeWidth 3 (some .int) 2 := ⟨⟨g_tb (i := 1783) (by decide +kernel) (by decide), ini_RX11, cd_X11_freeWidth, ⟨by decide, by decide⟩, by decide +kernel⟩, mw_X11_freeWidth, sl_X11_freeWidth⟩
theorem cd_X11_freeHeight : Cond.code yX11_freeHeight cX11_freeHeight 3 (some .int) ∈ g_ws := g_tb (i := 1790) (by decide +kernel) (by decide)
theorem sl_X11_freeHeight : Cond.selects yX11_freeHeight.cls yX11_freeHeight yX11_freeHeight ∈ g_ws := g_tb (i := 1789) (by decide +kernel) (by decide)
theorem mw_X11_freeHeight : Cond.instanceMethod yX11_freeHeight ∈ g_ws := g_tb (i := 1788) (by decide +kernel) (by decide)
theorem mk_L_206 : g_MV RL 206 yX11_freeHeight cX11_freeHeight 3 (some .int) 2 := ⟨⟨g_tb (i := 1787) (by decide +kernel) (by decide), ini_RX11, cd_X11_freeHeight, ⟨by decide, by decide⟩, by decide +kernel⟩, mw_X11_freeHeight, sl_X11_freeHeight⟩
theorem cd_X11_fill : Cond.code yX11_fill cX11_fill 8 (some .int) ∈ g_ws := g_tb (i := 1794) (by decide +kernel) (by decide)
theorem sl_X11_fill : Cond.selects yX11_fill.cls yX11_fill yX11_fill ∈ g_ws := g_tb (i := 1793) (by decide +kernel) (by decide)
theorem mw_X11_fill : Cond.instanceMethod yX11_fill ∈ g_ws := g_tb (i := 1792) (by decide +kernel) (by decide)
theorem mk_L_211 : g_MV RL 211 yX11_fill cX11_fill 8 (some .int) 2 := ⟨⟨g_tb (i := 1791) (by decide +kernel) (by decide), ini_RX11, cd_X11_fill, ⟨by decide, by decide⟩, by decide +kernel⟩, mw_X11_fill, sl_X11_fill⟩
theorem cd_X11_unplaced : Cond.code yX11_unplaced cX11_unplaced 3 (some .int) ∈ g_ws := g_tb (i := 1798) (by decide +kernel) (by decide)
theorem sl_X11_unplaced : Cond.selects yX11_unplaced.cls yX11_unplaced yX11_unplaced ∈ g_ws := g_tb (i := 1797) (by decide +kernel) (by decide)
theorem mw_X11_unplaced : Cond.instanceMethod yX11_unplaced ∈ g_ws := g_tb (i := 1796) (by decide +kernel) (by decide)
theorem mk_L_215 : g_MV RL 215 yX11_unplaced cX11_unplaced 3 (some .int) 0 := ⟨⟨g_tb (i := 1795) (by decide +kernel) (by decide), ini_RX11, cd_X11_unplaced, ⟨by decide, by decide⟩, by decide +kernel⟩, mw_X11_unplaced, sl_X11_unplaced⟩
theorem cd_X11_pageBound : Cond.code yX11_pageBound cX11_pageBound 3 (some .int) ∈ g_ws := g_tb (i := 1802) (by decide +kernel) (by decide)
theorem sl_X11_pageBound : Cond.selects yX11_pageBound.cls yX11_pageBound yX11_pageBound ∈ g_ws := g_tb (i := 1801) (by decide +kernel) (by decide)
theorem mw_X11_pageBound : Cond.instanceMethod yX11_pageBound ∈ g_ws := g_tb (i := 1800) (by decide +kernel) (by decide)
theorem mk_L_219 : g_MV RL 219 yX11_pageBound cX11_pageBound 3 (some .int) 0 := ⟨⟨g_tb (i := 1799) (by decide +kernel) (by decide), ini_RX11, cd_X11_pageBound, ⟨by decide, by decide⟩, by decide +kernel⟩, mw_X11_pageBound, sl_X11_pageBound⟩
theorem cd_X11_bestMethod : Cond.code yX11_bestMethod cX11_bestMethod 10 (some .int) ∈ g_ws := g_tb (i := 1806) (by decide +kernel) (by decide)
theorem sl_X11_bestMethod : Cond.selects yX11_bestMethod.cls yX11_bestMethod yX11_bestMethod ∈ g_ws := g_tb (i := 1805) (by decide +kernel) (by decide)
theorem mw_X11_bestMethod : Cond.instanceMethod yX11_bestMethod ∈ g_ws := g_tb (i := 1804) (by decide +kernel) (by decide)
theorem mk_L_223 : g_MV RL 223 yX11_bestMethod cX11_bestMethod 10 (some .int) 0 := ⟨⟨g_tb (i := 1803) (by decide +kernel) (by decide), ini_RX11, cd_X11_bestMethod, ⟨by decide, by decide⟩, by decide +kernel⟩, mw_X11_bestMethod, sl_X11_bestMethod⟩
theorem cd_X11_smallestPage : Cond.code yX11_smallestPage cX11_smallestPage 3 (some .int) ∈ g_ws := g_tb (i := 1814) (by decide +kernel) (by decide)
theorem sl_X11_smallestPage : Cond.selects yX11_smallestPage.cls yX11_smallestPage yX11_smallestPage ∈ g_ws := g_tb (i := 1813) (by decide +kernel) (by decide)
theorem mw_X11_smallestPage : Cond.instanceMethod yX11_smallestPage ∈ g_ws := g_tb (i := 1812) (by decide +kernel) (by decide)
theorem mk_L_227 : g_MV RL 227 yX11_smallestPage cX11_smallestPage 3 (some .int) 0 := ⟨⟨g_tb (i := 1811) (by decide +kernel) (by decide), ini_RX11, cd_X11_smallestPage, ⟨by decide, by decide⟩, by decide +kernel⟩, mw_X11_smallestPage, sl_X11_smallestPage⟩
theorem cd_X11_print : Cond.code yX11_print cX11_print 3 (some .int) ∈ g_ws := g_tb (i := 1818) (by decide +kernel) (by decide)
theorem sl_X11_print : Cond.selects yX11_print.cls yX11_print yX11_print ∈ g_ws := g_tb (i := 1817) (by decide +kernel) (by decide)
theorem mw_X11_print : Cond.instanceMethod yX11_print ∈ g_ws := g_tb (i := 1816) (by decide +kernel) (by decide)
theorem mk_L_231 : g_MV RL 231 yX11_print cX11_print 3 (some .int) 1 := ⟨⟨g_tb (i := 1815) (by decide +kernel) (by decide), ini_RX11, cd_X11_print, ⟨by decide, by decide⟩, by decide +kernel⟩, mw_X11_print, sl_X11_print⟩
theorem cd_X11_printed : Cond.code yX11_printed cX11_printed 2 (some .int) ∈ g_ws := g_tb (i := 1845) (by decide +kernel) (by decide)
theorem sl_X11_printed : Cond.selects yX11_printed.cls yX11_printed yX11_printed ∈ g_ws := g_tb (i := 1844) (by decide +kernel) (by decide)
theorem mw_X11_printed : Cond.instanceMethod yX11_printed ∈ g_ws := g_tb (i := 1843) (by decide +kernel) (by decide)
theorem mk_L_235 : g_MV RL 235 yX11_printed cX11_printed 2 (some .int) 1 := ⟨⟨g_tb (i := 1842) (by decide +kernel) (by decide), ini_RX11, cd_X11_printed, ⟨by decide, by decide⟩, by decide +kernel⟩, mw_X11_printed, sl_X11_printed⟩
theorem cd_X11_keep : Cond.code yX11_keep cX11_keep 3 (some .int) ∈ g_ws := g_tb (i := 1849) (by decide +kernel) (by decide)
theorem sl_X11_keep : Cond.selects yX11_keep.cls yX11_keep yX11_keep ∈ g_ws := g_tb (i := 1848) (by decide +kernel) (by decide)
theorem mw_X11_keep : Cond.instanceMethod yX11_keep ∈ g_ws := g_tb (i := 1847) (by decide +kernel) (by decide)
theorem mk_L_239 : g_MV RL 239 yX11_keep cX11_keep 3 (some .int) 1 := ⟨⟨g_tb (i := 1846) (by decide +kernel) (by decide), ini_RX11, cd_X11_keep, ⟨by decide, by decide⟩, by decide +kernel⟩, mw_X11_keep, sl_X11_keep⟩
theorem cd_X11_restore : Cond.code yX11_restore cX11_restore 3 (some .int) ∈ g_ws := g_tb (i := 1853) (by decide +kernel) (by decide)
theorem sl_X11_restore : Cond.selects yX11_restore.cls yX11_restore yX11_restore ∈ g_ws := g_tb (i := 1852) (by decide +kernel) (by decide)
theorem mw_X11_restore : Cond.instanceMethod yX11_restore ∈ g_ws := g_tb (i := 1851) (by decide +kernel) (by decide)
theorem mk_L_243 : g_MV RL 243 yX11_restore cX11_restore 3 (some .int) 1 := ⟨⟨g_tb (i := 1850) (by decide +kernel) (by decide), ini_RX11, cd_X11_restore, ⟨by decide, by decide⟩, by decide +kernel⟩, mw_X11_restore, sl_X11_restore⟩
theorem cd_X11_checksum : Cond.code yX11_checksum cX11_checksum 4 (some .long) ∈ g_ws := g_tb (i := 1857) (by decide +kernel) (by decide)
theorem sl_X11_checksum : Cond.selects yX11_checksum.cls yX11_checksum yX11_checksum ∈ g_ws := g_tb (i := 1856) (by decide +kernel) (by decide)
theorem mw_X11_checksum : Cond.instanceMethod yX11_checksum ∈ g_ws := g_tb (i := 1855) (by decide +kernel) (by decide)
theorem mk_L_248 : g_MV RL 248 yX11_checksum cX11_checksum 4 (some .long) 0 := ⟨⟨g_tb (i := 1854) (by decide +kernel) (by decide), ini_RX11, cd_X11_checksum, ⟨by decide, by decide⟩, by decide +kernel⟩, mw_X11_checksum, sl_X11_checksum⟩
