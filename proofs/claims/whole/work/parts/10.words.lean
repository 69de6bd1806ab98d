theorem in_X6 : ∀ w ∈ u_ws RX6 TX6 5, w ∈ g_ws := by decide +kernel
theorem ft_X6 : g_FT RX6 TX6 5 tyX6 := ⟨tyX6_ok, nmX6⟩
theorem fl_X6_24 : g_FL RX6 24 7 0 RX6 TX6 5 := ⟨rfl, by decide, in_X6, g_tb (i := 101) (by decide +kernel) (by decide), rfl⟩
theorem ini_RX6 : Cond.initialized RX6 ∈ g_ws := g_tb (i := 9) (by decide +kernel) (by decide)
theorem cd_X6_has : Cond.code yX6_has cX6_has 2 (some .boolean) ∈ g_ws := g_tb (i := 496) (by decide +kernel) (by decide)
theorem sl_X6_has : Cond.selects yX6_has.cls yX6_has yX6_has ∈ g_ws := g_tb (i := 495) (by decide +kernel) (by decide)
theorem mw_X6_has : Cond.instanceMethod yX6_has ∈ g_ws := g_tb (i := 494) (by decide +kernel) (by decide)
theorem mk_X6_28 : g_MV RX6 28 yX6_has cX6_has 2 (some .boolean) 1 := ⟨⟨g_tb (i := 493) (by decide +kernel) (by decide), ini_RX6, cd_X6_has, ⟨by decide, by decide⟩, by decide +kernel⟩, mw_X6_has, sl_X6_has⟩
theorem fl_X6_9 : g_FL RX6 9 7 1 RX6 TX6 5 := ⟨rfl, by decide, in_X6, g_tb (i := 104) (by decide +kernel) (by decide), rfl⟩
theorem fl_X6_15 : g_FL RX6 15 7 2 RX6 TX6 5 := ⟨rfl, by decide, in_X6, g_tb (i := 107) (by decide +kernel) (by decide), rfl⟩
theorem fl_X6_21 : g_FL RX6 21 7 4 RX6 TX6 5 := ⟨rfl, by decide, in_X6, g_tb (i := 113) (by decide +kernel) (by decide), rfl⟩
theorem cd_X6_hasPixel : Cond.code yX6_hasPixel cX6_hasPixel 4 (some .boolean) ∈ g_ws := g_tb (i := 492) (by decide +kernel) (by decide)
theorem sl_X6_hasPixel : Cond.selects yX6_hasPixel.cls yX6_hasPixel yX6_hasPixel ∈ g_ws := g_tb (i := 491) (by decide +kernel) (by decide)
theorem mw_X6_hasPixel : Cond.instanceMethod yX6_hasPixel ∈ g_ws := g_tb (i := 490) (by decide +kernel) (by decide)
theorem mk_X6_32 : g_MV RX6 32 yX6_hasPixel cX6_hasPixel 4 (some .boolean) 3 := ⟨⟨g_tb (i := 489) (by decide +kernel) (by decide), ini_RX6, cd_X6_hasPixel, ⟨by decide, by decide⟩, by decide +kernel⟩, mw_X6_hasPixel, sl_X6_hasPixel⟩
theorem ac_nat : Cond.native arraycopyName ∈ g_ws := g_tb (i := 454) (by decide +kernel) (by decide)
theorem ac_st : Cond.static arraycopyName ∈ g_ws := g_tb (i := 453) (by decide +kernel) (by decide)
theorem ac_ini : Cond.initialized "java/lang/System" ∈ g_ws := g_tb (i := 18) (by decide +kernel) (by decide)
theorem ac_X6_42 : Cond.methodLink RX6 42 arraycopyName ∈ g_ws := g_tb (i := 452) (by decide +kernel) (by decide)
theorem fl_X6_18 : g_FL RX6 18 7 3 RX6 TX6 5 := ⟨rfl, by decide, in_X6, g_tb (i := 110) (by decide +kernel) (by decide), rfl⟩
theorem in_X0 : ∀ w ∈ u_ws RX0 TX0 6, w ∈ g_ws := by decide +kernel
theorem ft_X0 : g_FT RX0 TX0 6 tyX0 := ⟨tyX0_ok, nmX0⟩
theorem fl_X0_18 : g_FL RX0 18 1 2 RX0 TX0 6 := ⟨rfl, by decide, in_X0, g_tb (i := 265) (by decide +kernel) (by decide), rfl⟩
theorem fl_X0_21 : g_FL RX0 21 1 3 RX0 TX0 6 := ⟨rfl, by decide, in_X0, g_tb (i := 268) (by decide +kernel) (by decide), rfl⟩
theorem fl_X0_9 : g_FL RX0 9 1 0 RX0 TX0 6 := ⟨rfl, by decide, in_X0, g_tb (i := 261) (by decide +kernel) (by decide), rfl⟩
theorem fl_X0_15 : g_FL RX0 15 1 1 RX0 TX0 6 := ⟨rfl, by decide, in_X0, g_tb (i := 263) (by decide +kernel) (by decide), rfl⟩
theorem cd_X6_colorAt : Cond.code yX6_colorAt cX6_colorAt 5 (some .int) ∈ g_ws := g_tb (i := 541) (by decide +kernel) (by decide)
theorem sl_X6_colorAt : Cond.selects yX6_colorAt.cls yX6_colorAt yX6_colorAt ∈ g_ws := g_tb (i := 540) (by decide +kernel) (by decide)
theorem mw_X6_colorAt : Cond.instanceMethod yX6_colorAt ∈ g_ws := g_tb (i := 539) (by decide +kernel) (by decide)
theorem mk_X0_72 : g_MV RX0 72 yX6_colorAt cX6_colorAt 5 (some .int) 3 := ⟨⟨g_tb (i := 538) (by decide +kernel) (by decide), ini_RX6, cd_X6_colorAt, ⟨by decide, by decide⟩, by decide +kernel⟩, mw_X6_colorAt, sl_X6_colorAt⟩
theorem ini_RX0 : Cond.initialized RX0 ∈ g_ws := g_tb (i := 13) (by decide +kernel) (by decide)
theorem cd_X0_colorIn : Cond.code yX0_colorIn cX0_colorIn 11 (some .int) ∈ g_ws := g_tb (i := 537) (by decide +kernel) (by decide)
theorem sl_X0_colorIn : Cond.selects yX0_colorIn.cls yX0_colorIn yX0_colorIn ∈ g_ws := g_tb (i := 536) (by decide +kernel) (by decide)
theorem mw_X0_colorIn : Cond.instanceMethod yX0_colorIn ∈ g_ws := g_tb (i := 535) (by decide +kernel) (by decide)
theorem mk_X0_88 : g_MV RX0 88 yX0_colorIn cX0_colorIn 11 (some .int) 5 := ⟨⟨g_tb (i := 534) (by decide +kernel) (by decide), ini_RX0, cd_X0_colorIn, ⟨by decide, by decide⟩, by decide +kernel⟩, mw_X0_colorIn, sl_X0_colorIn⟩
theorem fl_X0_24 : g_FL RX0 24 1 4 RX0 TX0 6 := ⟨rfl, by decide, in_X0, g_tb (i := 271) (by decide +kernel) (by decide), rfl⟩
theorem fl_X0_27 : g_FL RX0 27 1 5 RX0 TX0 6 := ⟨rfl, by decide, in_X0, g_tb (i := 273) (by decide +kernel) (by decide), rfl⟩
theorem cd_X0_isBlank : Cond.code yX0_isBlank cX0_isBlank 2 (some .boolean) ∈ g_ws := g_tb (i := 525) (by decide +kernel) (by decide)
theorem sl_X0_isBlank : Cond.selects yX0_isBlank.cls yX0_isBlank yX0_isBlank ∈ g_ws := g_tb (i := 524) (by decide +kernel) (by decide)
theorem mw_X0_isBlank : Cond.instanceMethod yX0_isBlank ∈ g_ws := g_tb (i := 523) (by decide +kernel) (by decide)
theorem mk_X0_60 : g_MV RX0 60 yX0_isBlank cX0_isBlank 2 (some .boolean) 1 := ⟨⟨g_tb (i := 522) (by decide +kernel) (by decide), ini_RX0, cd_X0_isBlank, ⟨by decide, by decide⟩, by decide +kernel⟩, mw_X0_isBlank, sl_X0_isBlank⟩
