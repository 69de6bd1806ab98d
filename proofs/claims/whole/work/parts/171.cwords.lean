theorem zo_in : Cond.instanceMethod Lib.objectInit ∈ g_ws := g_tb (i := 32) (by decide +kernel) (by decide)
theorem zo_cd : Cond.code Lib.objectInit ⟨#[0xb1]⟩ 1 none ∈ g_ws := g_tb (i := 33) (by decide +kernel) (by decide)
theorem z_arr_int : Cond.arrayClass (newarray.typeOf .int) ∈ g_ws := g_tb (i := 48) (by decide +kernel) (by decide)
theorem z_arr_long : Cond.arrayClass (newarray.typeOf .long) ∈ g_ws := g_tb (i := 318) (by decide +kernel) (by decide)
theorem z_arr_boolean : Cond.arrayClass (newarray.typeOf .boolean) ∈ g_ws := g_tb (i := 225) (by decide +kernel) (by decide)
theorem ft_J4 : g_FT RJ4 TJ4 4 tyJ4 := ⟨tyJ4_ok, nmJ4⟩
theorem zo_J5_3 : Cond.methodLink RJ5 3 Lib.objectInit ∈ g_ws := g_tb (i := 57) (by decide +kernel) (by decide)
theorem zc_J5_init_d00df : Cond.code yJ5_init_d00df cJ5_init_d00df 2 none ∈ g_ws := g_tb (i := 56) (by decide +kernel) (by decide)
theorem zn_J5_init_d00df : Cond.instanceMethod yJ5_init_d00df ∈ g_ws := g_tb (i := 55) (by decide +kernel) (by decide)
theorem zk_J4_1 : g_MK RJ4 1 yJ5_init_d00df cJ5_init_d00df 2 none 1 := ⟨g_tb (i := 54) (by decide +kernel) (by decide), zi_RJ5, zc_J5_init_d00df, ⟨by decide, by decide⟩, by decide +kernel⟩
theorem zo_X9_3 : Cond.methodLink RX9 3 Lib.objectInit ∈ g_ws := g_tb (i := 39) (by decide +kernel) (by decide)
theorem zo_X6_3 : Cond.methodLink RX6 3 Lib.objectInit ∈ g_ws := g_tb (i := 99) (by decide +kernel) (by decide)
theorem zo_X5_3 : Cond.methodLink RX5 3 Lib.objectInit ∈ g_ws := g_tb (i := 130) (by decide +kernel) (by decide)
theorem zo_X0_3 : Cond.methodLink RX0 3 Lib.objectInit ∈ g_ws := g_tb (i := 260) (by decide +kernel) (by decide)
theorem zo_X7_3 : Cond.methodLink RX7 3 Lib.objectInit ∈ g_ws := g_tb (i := 299) (by decide +kernel) (by decide)
theorem zo_X1_1 : Cond.methodLink RX1 1 Lib.objectInit ∈ g_ws := g_tb (i := 324) (by decide +kernel) (by decide)
theorem zo_X4_3 : Cond.methodLink RX4 3 Lib.objectInit ∈ g_ws := g_tb (i := 193) (by decide +kernel) (by decide)
theorem zo_X8_1 : Cond.methodLink RX8 1 Lib.objectInit ∈ g_ws := g_tb (i := 93) (by decide +kernel) (by decide)
theorem zi_RX6 : Cond.initialized RX6 ∈ g_ws := g_tb (i := 9) (by decide +kernel) (by decide)
theorem zw_X8_7 : g_NW RX8 7 7 RX6 TX6 5 := ⟨rfl, g_tb (i := 94) (by decide +kernel) (by decide), g_tb (i := 95) (by decide +kernel) (by decide), zi_RX6⟩
theorem zc_X6_init : Cond.code yX6_init cX6_init 1 none ∈ g_ws := g_tb (i := 98) (by decide +kernel) (by decide)
theorem zn_X6_init : Cond.instanceMethod yX6_init ∈ g_ws := g_tb (i := 97) (by decide +kernel) (by decide)
theorem zmn_X6_init : g_MN yX6_init cX6_init 1 0 := ⟨zi_RX6, zc_X6_init, ⟨by decide, by decide⟩, by decide +kernel⟩
theorem zi_RX5 : Cond.initialized RX5 ∈ g_ws := g_tb (i := 10) (by decide +kernel) (by decide)
theorem zw_X8_16 : g_NW RX8 16 6 RX5 TX5 12 := ⟨rfl, g_tb (i := 125) (by decide +kernel) (by decide), g_tb (i := 126) (by decide +kernel) (by decide), zi_RX5⟩
theorem zc_X5_init : Cond.code yX5_init cX5_init 1 none ∈ g_ws := g_tb (i := 129) (by decide +kernel) (by decide)
theorem zn_X5_init : Cond.instanceMethod yX5_init ∈ g_ws := g_tb (i := 128) (by decide +kernel) (by decide)
theorem zmn_X5_init : g_MN yX5_init cX5_init 1 0 := ⟨zi_RX5, zc_X5_init, ⟨by decide, by decide⟩, by decide +kernel⟩
theorem zi_RX4 : Cond.initialized RX4 ∈ g_ws := g_tb (i := 11) (by decide +kernel) (by decide)
theorem zw_X8_23 : g_NW RX8 23 5 RX4 TX4 6 := ⟨rfl, g_tb (i := 188) (by decide +kernel) (by decide), g_tb (i := 189) (by decide +kernel) (by decide), zi_RX4⟩
theorem zc_X4_init : Cond.code yX4_init cX4_init 1 none ∈ g_ws := g_tb (i := 192) (by decide +kernel) (by decide)
theorem zn_X4_init : Cond.instanceMethod yX4_init ∈ g_ws := g_tb (i := 191) (by decide +kernel) (by decide)
theorem zk_X8_25 : g_MK RX8 25 yX4_init cX4_init 1 none 0 := ⟨g_tb (i := 190) (by decide +kernel) (by decide), zi_RX4, zc_X4_init, ⟨by decide, by decide⟩, by decide +kernel⟩
theorem zo_X3_3 : Cond.methodLink RX3 3 Lib.objectInit ∈ g_ws := g_tb (i := 293) (by decide +kernel) (by decide)
theorem zi_RX7 : Cond.initialized RX7 ∈ g_ws := g_tb (i := 15) (by decide +kernel) (by decide)
theorem zw_X3_9 : g_NW RX3 9 8 RX7 TX7 5 := ⟨rfl, g_tb (i := 294) (by decide +kernel) (by decide), g_tb (i := 295) (by decide +kernel) (by decide), zi_RX7⟩
theorem zc_X7_init : Cond.code yX7_init cX7_init 1 none ∈ g_ws := g_tb (i := 298) (by decide +kernel) (by decide)
theorem zn_X7_init : Cond.instanceMethod yX7_init ∈ g_ws := g_tb (i := 297) (by decide +kernel) (by decide)
theorem zmn_X7_init : g_MN yX7_init cX7_init 1 0 := ⟨zi_RX7, zc_X7_init, ⟨by decide, by decide⟩, by decide +kernel⟩
theorem zi_RX1 : Cond.initialized RX1 ∈ g_ws := g_tb (i := 16) (by decide +kernel) (by decide)
theorem zw_X3_18 : g_NW RX3 18 2 RX1 TX1 7 := ⟨rfl, g_tb (i := 319) (by decide +kernel) (by decide), g_tb (i := 320) (by decide +kernel) (by decide), zi_RX1⟩
theorem zc_X1_init : Cond.code yX1_init cX1_init 1 none ∈ g_ws := g_tb (i := 323) (by decide +kernel) (by decide)
theorem zn_X1_init : Cond.instanceMethod yX1_init ∈ g_ws := g_tb (i := 322) (by decide +kernel) (by decide)
theorem zmn_X1_init : g_MN yX1_init cX1_init 1 0 := ⟨zi_RX1, zc_X1_init, ⟨by decide, by decide⟩, by decide +kernel⟩
theorem zo_X2_3 : Cond.methodLink RX2 3 Lib.objectInit ∈ g_ws := g_tb (i := 86) (by decide +kernel) (by decide)
theorem zcl_X2_9 : Cond.classLink RX2 9 "SpriteAtlas$State" ∈ g_ws := g_tb (i := 87) (by decide +kernel) (by decide)
theorem zi_RX8 : Cond.initialized RX8 ∈ g_ws := g_tb (i := 8) (by decide +kernel) (by decide)
theorem zw_X2_9 : g_NW RX2 9 9 RX8 TX8 3 := ⟨rfl, g_tb (i := 87) (by decide +kernel) (by decide), g_tb (i := 89) (by decide +kernel) (by decide), zi_RX8⟩
theorem zc_X8_init : Cond.code yX8_init cX8_init 1 none ∈ g_ws := g_tb (i := 92) (by decide +kernel) (by decide)
theorem zn_X8_init : Cond.instanceMethod yX8_init ∈ g_ws := g_tb (i := 91) (by decide +kernel) (by decide)
theorem zmn_X8_init : g_MN yX8_init cX8_init 1 0 := ⟨zi_RX8, zc_X8_init, ⟨by decide, by decide⟩, by decide +kernel⟩
theorem zo_X11_1 : Cond.methodLink RX11 1 Lib.objectInit ∈ g_ws := g_tb (i := 1279) (by decide +kernel) (by decide)
theorem zo_X10_3 : Cond.methodLink RX10 3 Lib.objectInit ∈ g_ws := g_tb (i := 31) (by decide +kernel) (by decide)
theorem zi_RX9 : Cond.initialized RX9 ∈ g_ws := g_tb (i := 2) (by decide +kernel) (by decide)
theorem zw_X10_9 : g_NW RX10 9 10 RX9 TX9 2 := ⟨rfl, g_tb (i := 34) (by decide +kernel) (by decide), g_tb (i := 35) (by decide +kernel) (by decide), zi_RX9⟩
theorem zc_X9_init : Cond.code yX9_init cX9_init 1 none ∈ g_ws := g_tb (i := 38) (by decide +kernel) (by decide)
theorem zn_X9_init : Cond.instanceMethod yX9_init ∈ g_ws := g_tb (i := 37) (by decide +kernel) (by decide)
theorem zmn_X9_init : g_MN yX9_init cX9_init 1 0 := ⟨zi_RX9, zc_X9_init, ⟨by decide, by decide⟩, by decide +kernel⟩
theorem zw_X10_16 : g_NW RX10 16 0 RJ4 TJ4 4 := ⟨rfl, g_tb (i := 49) (by decide +kernel) (by decide), g_tb (i := 50) (by decide +kernel) (by decide), zi_RJ4⟩
theorem zc_J4_init_da8c8 : Cond.code yJ4_init_da8c8 cJ4_init_da8c8 1 none ∈ g_ws := g_tb (i := 53) (by decide +kernel) (by decide)
theorem zn_J4_init_da8c8 : Cond.instanceMethod yJ4_init_da8c8 ∈ g_ws := g_tb (i := 52) (by decide +kernel) (by decide)
theorem zk_X10_18 : g_MK RX10 18 yJ4_init_da8c8 cJ4_init_da8c8 1 none 0 := ⟨g_tb (i := 51) (by decide +kernel) (by decide), zi_RJ4, zc_J4_init_da8c8, ⟨by decide, by decide⟩, by decide +kernel⟩
theorem zi_RX2 : Cond.initialized RX2 ∈ g_ws := g_tb (i := 7) (by decide +kernel) (by decide)
theorem zw_X10_23 : g_NW RX10 23 3 RX2 TX2 3 := ⟨rfl, g_tb (i := 81) (by decide +kernel) (by decide), g_tb (i := 82) (by decide +kernel) (by decide), zi_RX2⟩
theorem zc_X2_init : Cond.code yX2_init cX2_init 2 none ∈ g_ws := g_tb (i := 85) (by decide +kernel) (by decide)
theorem zn_X2_init : Cond.instanceMethod yX2_init ∈ g_ws := g_tb (i := 84) (by decide +kernel) (by decide)
theorem zk_X10_25 : g_MK RX10 25 yX2_init cX2_init 2 none 0 := ⟨g_tb (i := 83) (by decide +kernel) (by decide), zi_RX2, zc_X2_init, ⟨by decide, by decide⟩, by decide +kernel⟩
theorem zw_X10_30 : g_NW RX10 30 9 RX8 TX8 3 := ⟨rfl, g_tb (i := 253) (by decide +kernel) (by decide), g_tb (i := 89) (by decide +kernel) (by decide), zi_RX8⟩
theorem zi_RX0 : Cond.initialized RX0 ∈ g_ws := g_tb (i := 13) (by decide +kernel) (by decide)
theorem zw_X10_44 : g_NW RX10 44 1 RX0 TX0 6 := ⟨rfl, g_tb (i := 255) (by decide +kernel) (by decide), g_tb (i := 256) (by decide +kernel) (by decide), zi_RX0⟩
theorem zc_X0_init : Cond.code yX0_init cX0_init 1 none ∈ g_ws := g_tb (i := 259) (by decide +kernel) (by decide)
theorem zn_X0_init : Cond.instanceMethod yX0_init ∈ g_ws := g_tb (i := 258) (by decide +kernel) (by decide)
theorem zmn_X0_init : g_MN yX0_init cX0_init 1 0 := ⟨zi_RX0, zc_X0_init, ⟨by decide, by decide⟩, by decide +kernel⟩
theorem zi_RX3 : Cond.initialized RX3 ∈ g_ws := g_tb (i := 14) (by decide +kernel) (by decide)
theorem zw_X10_57 : g_NW RX10 57 4 RX3 TX3 5 := ⟨rfl, g_tb (i := 288) (by decide +kernel) (by decide), g_tb (i := 289) (by decide +kernel) (by decide), zi_RX3⟩
theorem zc_X3_init : Cond.code yX3_init cX3_init 3 none ∈ g_ws := g_tb (i := 292) (by decide +kernel) (by decide)
theorem zn_X3_init : Cond.instanceMethod yX3_init ∈ g_ws := g_tb (i := 291) (by decide +kernel) (by decide)
theorem zk_X10_59 : g_MK RX10 59 yX3_init cX3_init 3 none 2 := ⟨g_tb (i := 290) (by decide +kernel) (by decide), zi_RX3, zc_X3_init, ⟨by decide, by decide⟩, by decide +kernel⟩
