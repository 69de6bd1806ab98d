theorem z_dummy : True := trivial
theorem zf_J5_18 : Cond.fieldLink RJ5 18 "java/lang/String" "COMPACT_STRINGS" "Z" ∈ g_ws := g_tb (i := 58) (by decide +kernel) (by decide)
theorem zf_J5_22 : Cond.fieldLink RJ5 22 "java/lang/AbstractStringBuilder" "coder" "B" ∈ g_ws := g_tb (i := 68) (by decide +kernel) (by decide)
theorem zh_J8_194 : g_Mth RJ8 194 Lib.Math.max.name Lib.Math.max.code := ⟨g_tb (i := 1032) (by decide +kernel) (by decide), g_tb (i := 560) (by decide +kernel) (by decide), g_tb (i := 19) (by decide +kernel) (by decide), g_tb (i := 561) (by decide +kernel) (by decide)⟩
theorem zq_J8_200 : Cond.constant RJ8 200 (2147483639) ∈ g_ws := g_tb (i := 1033) (by decide +kernel) (by decide)
theorem zf_J5_15 : Cond.fieldLink RJ5 15 "java/lang/AbstractStringBuilder" "value" "[B" ∈ g_ws := g_tb (i := 67) (by decide +kernel) (by decide)
theorem zi_RJ8 : Cond.initialized RJ8 ∈ g_ws := g_tb (i := 22) (by decide +kernel) (by decide)
theorem zc_J8_newLength_cabcc : Cond.code yJ8_newLength_cabcc cJ8_newLength_cabcc 4 (some .int) ∈ g_ws := g_tb (i := 1031) (by decide +kernel) (by decide)
theorem zs_J8_newLength_cabcc : Cond.static yJ8_newLength_cabcc ∈ g_ws := g_tb (i := 1030) (by decide +kernel) (by decide)
theorem zk_J5_114 : g_MS RJ5 114 yJ8_newLength_cabcc cJ8_newLength_cabcc 4 (some .int) 3 := ⟨⟨g_tb (i := 1029) (by decide +kernel) (by decide), zi_RJ8, zc_J8_newLength_cabcc, ⟨by decide, by decide⟩, by decide +kernel⟩, zs_J8_newLength_cabcc⟩
theorem zq_J5_39 : Cond.constant RJ5 39 (2147483647) ∈ g_ws := g_tb (i := 1037) (by decide +kernel) (by decide)
theorem z_arr_byte : Cond.arrayClass (newarray.typeOf .byte) ∈ g_ws := g_tb (i := 80) (by decide +kernel) (by decide)
theorem zh_J7_304 : g_Mth RJ7 304 Lib.Math.min.name Lib.Math.min.code := ⟨g_tb (i := 1048) (by decide +kernel) (by decide), g_tb (i := 465) (by decide +kernel) (by decide), g_tb (i := 19) (by decide +kernel) (by decide), g_tb (i := 466) (by decide +kernel) (by decide)⟩
theorem za_nat : Cond.native arraycopyName ∈ g_ws := g_tb (i := 454) (by decide +kernel) (by decide)
theorem za_st : Cond.static arraycopyName ∈ g_ws := g_tb (i := 453) (by decide +kernel) (by decide)
theorem za_ini : Cond.initialized "java/lang/System" ∈ g_ws := g_tb (i := 18) (by decide +kernel) (by decide)
theorem za_J7_150 : Cond.methodLink RJ7 150 arraycopyName ∈ g_ws := g_tb (i := 1049) (by decide +kernel) (by decide)
theorem zi_RJ5 : Cond.initialized RJ5 ∈ g_ws := g_tb (i := 3) (by decide +kernel) (by decide)
theorem zc_J5_newCapacity_0f7a4 : Cond.code yJ5_newCapacity_0f7a4 cJ5_newCapacity_0f7a4 6 (some .int) ∈ g_ws := g_tb (i := 1028) (by decide +kernel) (by decide)
theorem zn_J5_newCapacity_0f7a4 : Cond.instanceMethod yJ5_newCapacity_0f7a4 ∈ g_ws := g_tb (i := 1027) (by decide +kernel) (by decide)
theorem zk_J5_104 : g_MK RJ5 104 yJ5_newCapacity_0f7a4 cJ5_newCapacity_0f7a4 6 (some .int) 1 := ⟨g_tb (i := 1025) (by decide +kernel) (by decide), zi_RJ5, zc_J5_newCapacity_0f7a4, ⟨by decide, by decide⟩, by decide +kernel⟩
theorem zi_RJ7 : Cond.initialized RJ7 ∈ g_ws := g_tb (i := 12) (by decide +kernel) (by decide)
theorem zc_J7_copyOf_9075b : Cond.code yJ7_copyOf_9075b cJ7_copyOf_9075b 3 (some (.array .byte)) ∈ g_ws := g_tb (i := 1040) (by decide +kernel) (by decide)
theorem zs_J7_copyOf_9075b : Cond.static yJ7_copyOf_9075b ∈ g_ws := g_tb (i := 1039) (by decide +kernel) (by decide)
theorem zk_J5_108 : g_MS RJ5 108 yJ7_copyOf_9075b cJ7_copyOf_9075b 3 (some (.array .byte)) 2 := ⟨⟨g_tb (i := 1038) (by decide +kernel) (by decide), zi_RJ7, zc_J7_copyOf_9075b, ⟨by decide, by decide⟩, by decide +kernel⟩, zs_J7_copyOf_9075b⟩
theorem zf_J5_79 : Cond.fieldLink RJ5 79 "java/lang/AbstractStringBuilder" "count" "I" ∈ g_ws := g_tb (i := 70) (by decide +kernel) (by decide)
theorem zc_J5_ensureCapacityInternal_d00df : Cond.code yJ5_ensureCapacityInternal_d00df cJ5_ensureCapacityInternal_d00df 3 none ∈ g_ws := g_tb (i := 1024) (by decide +kernel) (by decide)
theorem zn_J5_ensureCapacityInternal_d00df : Cond.instanceMethod yJ5_ensureCapacityInternal_d00df ∈ g_ws := g_tb (i := 1023) (by decide +kernel) (by decide)
theorem zk_J5_100 : g_MK RJ5 100 yJ5_ensureCapacityInternal_d00df cJ5_ensureCapacityInternal_d00df 3 none 1 := ⟨g_tb (i := 1021) (by decide +kernel) (by decide), zi_RJ5, zc_J5_ensureCapacityInternal_d00df, ⟨by decide, by decide⟩, by decide +kernel⟩
theorem zc_J5_isLatin1_aae02 : Cond.code yJ5_isLatin1_aae02 cJ5_isLatin1_aae02 1 (some .boolean) ∈ g_ws := g_tb (i := 1054) (by decide +kernel) (by decide)
theorem zn_J5_isLatin1_aae02 : Cond.instanceMethod yJ5_isLatin1_aae02 ∈ g_ws := g_tb (i := 1051) (by decide +kernel) (by decide)
theorem zk_J5_83 : g_MK RJ5 83 yJ5_isLatin1_aae02 cJ5_isLatin1_aae02 1 (some .boolean) 0 := ⟨g_tb (i := 1050) (by decide +kernel) (by decide), zi_RJ5, zc_J5_isLatin1_aae02, ⟨by decide, by decide⟩, by decide +kernel⟩
theorem zl_J5_isLatin1_aae02 : Cond.selects RJ4 yJ5_isLatin1_aae02 yJ5_isLatin1_aae02 ∈ g_ws := g_tb (i := 1053) (by decide +kernel) (by decide)
theorem zi_RJ1 : Cond.initialized RJ1 ∈ g_ws := g_tb (i := 23) (by decide +kernel) (by decide)
theorem zc_J1_canEncode_fc78d : Cond.code yJ1_canEncode_fc78d cJ1_canEncode_fc78d 1 (some .boolean) ∈ g_ws := g_tb (i := 1122) (by decide +kernel) (by decide)
theorem zs_J1_canEncode_fc78d : Cond.static yJ1_canEncode_fc78d ∈ g_ws := g_tb (i := 1121) (by decide +kernel) (by decide)
theorem zk_J5_191 : g_MS RJ5 191 yJ1_canEncode_fc78d cJ1_canEncode_fc78d 1 (some .boolean) 1 := ⟨⟨g_tb (i := 1120) (by decide +kernel) (by decide), zi_RJ1, zc_J1_canEncode_fc78d, ⟨by decide, by decide⟩, by decide +kernel⟩, zs_J1_canEncode_fc78d⟩
theorem zf_J6_83 : Cond.fieldLink RJ6 83 "java/lang/Integer" "DigitOnes" "[B" ∈ g_ws := g_tb (i := 1078) (by decide +kernel) (by decide)
theorem zf_J6_87 : Cond.fieldLink RJ6 87 "java/lang/Integer" "DigitTens" "[B" ∈ g_ws := g_tb (i := 1080) (by decide +kernel) (by decide)
theorem zi_RJ6 : Cond.initialized RJ6 ∈ g_ws := g_tb (i := 24) (by decide +kernel) (by decide)
theorem zc_J6_stringSize_0f7a4 : Cond.code yJ6_stringSize_0f7a4 cJ6_stringSize_0f7a4 4 (some .int) ∈ g_ws := g_tb (i := 1074) (by decide +kernel) (by decide)
theorem zs_J6_stringSize_0f7a4 : Cond.static yJ6_stringSize_0f7a4 ∈ g_ws := g_tb (i := 1073) (by decide +kernel) (by decide)
theorem zk_J5_245 : g_MS RJ5 245 yJ6_stringSize_0f7a4 cJ6_stringSize_0f7a4 4 (some .int) 1 := ⟨⟨g_tb (i := 1072) (by decide +kernel) (by decide), zi_RJ6, zc_J6_stringSize_0f7a4, ⟨by decide, by decide⟩, by decide +kernel⟩, zs_J6_stringSize_0f7a4⟩
theorem zc_J6_getChars_ba4f3 : Cond.code yJ6_getChars_ba4f3 cJ6_getChars_ba4f3 7 (some .int) ∈ g_ws := g_tb (i := 1077) (by decide +kernel) (by decide)
theorem zs_J6_getChars_ba4f3 : Cond.static yJ6_getChars_ba4f3 ∈ g_ws := g_tb (i := 1076) (by decide +kernel) (by decide)
theorem zk_J5_248 : g_MS RJ5 248 yJ6_getChars_ba4f3 cJ6_getChars_ba4f3 7 (some .int) 3 := ⟨⟨g_tb (i := 1075) (by decide +kernel) (by decide), zi_RJ6, zc_J6_getChars_ba4f3, ⟨by decide, by decide⟩, by decide +kernel⟩, zs_J6_getChars_ba4f3⟩
theorem zf_J0_38 : Cond.fieldLink RJ0 38 "java/lang/String" "COMPACT_STRINGS" "Z" ∈ g_ws := g_tb (i := 1178) (by decide +kernel) (by decide)
theorem zf_J0_15 : Cond.fieldLink RJ0 15 "java/lang/String" "coder" "B" ∈ g_ws := g_tb (i := 1887) (by decide +kernel) (by decide)
theorem zf_J0_9 : Cond.fieldLink RJ0 9 "java/lang/String" "value" "[B" ∈ g_ws := g_tb (i := 1886) (by decide +kernel) (by decide)
theorem zi_RJ0 : Cond.initialized RJ0 ∈ g_ws := g_tb (i := 5) (by decide +kernel) (by decide)
theorem zc_J0_coder_7d493 : Cond.code yJ0_coder_7d493 cJ0_coder_7d493 1 (some .byte) ∈ g_ws := g_tb (i := 1177) (by decide +kernel) (by decide)
theorem zn_J0_coder_7d493 : Cond.instanceMethod yJ0_coder_7d493 ∈ g_ws := g_tb (i := 1175) (by decide +kernel) (by decide)
theorem zk_J0_335 : g_MK RJ0 335 yJ0_coder_7d493 cJ0_coder_7d493 1 (some .byte) 0 := ⟨g_tb (i := 1174) (by decide +kernel) (by decide), zi_RJ0, zc_J0_coder_7d493, ⟨by decide, by decide⟩, by decide +kernel⟩
theorem zl_J0_coder_7d493 : Cond.selects RJ0 yJ0_coder_7d493 yJ0_coder_7d493 ∈ g_ws := g_tb (i := 1176) (by decide +kernel) (by decide)
theorem za_J0_212 : Cond.methodLink RJ0 212 arraycopyName ∈ g_ws := g_tb (i := 1192) (by decide +kernel) (by decide)
theorem zk_J5_40 : g_MK RJ5 40 yJ0_coder_7d493 cJ0_coder_7d493 1 (some .byte) 0 := ⟨g_tb (i := 1187) (by decide +kernel) (by decide), zi_RJ0, zc_J0_coder_7d493, ⟨by decide, by decide⟩, by decide +kernel⟩
theorem zc_J5_inflateIfNeededFor_a7421 : Cond.code yJ5_inflateIfNeededFor_a7421 cJ5_inflateIfNeededFor_a7421 2 none ∈ g_ws := g_tb (i := 1186) (by decide +kernel) (by decide)
theorem zn_J5_inflateIfNeededFor_a7421 : Cond.instanceMethod yJ5_inflateIfNeededFor_a7421 ∈ g_ws := g_tb (i := 1185) (by decide +kernel) (by decide)
theorem zk_J5_397 : g_MK RJ5 397 yJ5_inflateIfNeededFor_a7421 cJ5_inflateIfNeededFor_a7421 2 none 1 := ⟨g_tb (i := 1183) (by decide +kernel) (by decide), zi_RJ5, zc_J5_inflateIfNeededFor_a7421, ⟨by decide, by decide⟩, by decide +kernel⟩
theorem zc_J0_getBytes_840e7 : Cond.code yJ0_getBytes_840e7 cJ0_getBytes_840e7 4 none ∈ g_ws := g_tb (i := 1191) (by decide +kernel) (by decide)
theorem zn_J0_getBytes_840e7 : Cond.instanceMethod yJ0_getBytes_840e7 ∈ g_ws := g_tb (i := 1189) (by decide +kernel) (by decide)
theorem zk_J5_399 : g_MK RJ5 399 yJ0_getBytes_840e7 cJ0_getBytes_840e7 4 none 3 := ⟨g_tb (i := 1188) (by decide +kernel) (by decide), zi_RJ0, zc_J0_getBytes_840e7, ⟨by decide, by decide⟩, by decide +kernel⟩
theorem zl_J0_getBytes_840e7 : Cond.selects RJ0 yJ0_getBytes_840e7 yJ0_getBytes_840e7 ∈ g_ws := g_tb (i := 1190) (by decide +kernel) (by decide)
theorem zc_J0_length_8abf5 : Cond.code yJ0_length_8abf5 cJ0_length_8abf5 1 (some .int) ∈ g_ws := g_tb (i := 1173) (by decide +kernel) (by decide)
theorem zn_J0_length_8abf5 : Cond.instanceMethod yJ0_length_8abf5 ∈ g_ws := g_tb (i := 1171) (by decide +kernel) (by decide)
theorem zk_J5_32 : g_MK RJ5 32 yJ0_length_8abf5 cJ0_length_8abf5 1 (some .int) 0 := ⟨g_tb (i := 1170) (by decide +kernel) (by decide), zi_RJ0, zc_J0_length_8abf5, ⟨by decide, by decide⟩, by decide +kernel⟩
theorem zl_J0_length_8abf5 : Cond.selects RJ0 yJ0_length_8abf5 yJ0_length_8abf5 ∈ g_ws := g_tb (i := 1172) (by decide +kernel) (by decide)
theorem zc_J5_putStringAt_47b60 : Cond.code yJ5_putStringAt_47b60 cJ5_putStringAt_47b60 3 none ∈ g_ws := g_tb (i := 1182) (by decide +kernel) (by decide)
theorem zn_J5_putStringAt_47b60 : Cond.instanceMethod yJ5_putStringAt_47b60 ∈ g_ws := g_tb (i := 1181) (by decide +kernel) (by decide)
theorem zk_J5_208 : g_MK RJ5 208 yJ5_putStringAt_47b60 cJ5_putStringAt_47b60 3 none 2 := ⟨g_tb (i := 1179) (by decide +kernel) (by decide), zi_RJ5, zc_J5_putStringAt_47b60, ⟨by decide, by decide⟩, by decide +kernel⟩
theorem zf_J0_1053 : Cond.fieldLink RJ0 1053 "jdk/internal/util/Preconditions" "SIOOBE_FORMATTER" "Ljava/util/function/BiFunction;" ∈ g_ws := g_tb (i := 1094) (by decide +kernel) (by decide)
theorem zi_RJ3 : Cond.initialized RJ3 ∈ g_ws := g_tb (i := 25) (by decide +kernel) (by decide)
theorem zc_J3_checkIndex_8e157 : Cond.code yJ3_checkIndex_8e157 cJ3_checkIndex_8e157 3 (some .int) ∈ g_ws := g_tb (i := 1153) (by decide +kernel) (by decide)
theorem zs_J3_checkIndex_8e157 : Cond.static yJ3_checkIndex_8e157 ∈ g_ws := g_tb (i := 1152) (by decide +kernel) (by decide)
theorem zk_J0_1059 : g_MS RJ0 1059 yJ3_checkIndex_8e157 cJ3_checkIndex_8e157 3 (some .int) 3 := ⟨⟨g_tb (i := 1151) (by decide +kernel) (by decide), zi_RJ3, zc_J3_checkIndex_8e157, ⟨by decide, by decide⟩, by decide +kernel⟩, zs_J3_checkIndex_8e157⟩
theorem zh_J5_138 : g_Mth RJ5 138 Lib.Math.min.name Lib.Math.min.code := ⟨g_tb (i := 1226) (by decide +kernel) (by decide), g_tb (i := 465) (by decide +kernel) (by decide), g_tb (i := 19) (by decide +kernel) (by decide), g_tb (i := 466) (by decide +kernel) (by decide)⟩
theorem zc_J0_checkIndex_df160 : Cond.code yJ0_checkIndex_df160 cJ0_checkIndex_df160 2 none ∈ g_ws := g_tb (i := 1150) (by decide +kernel) (by decide)
theorem zs_J0_checkIndex_df160 : Cond.static yJ0_checkIndex_df160 ∈ g_ws := g_tb (i := 1149) (by decide +kernel) (by decide)
theorem zk_J5_144 : g_MS RJ5 144 yJ0_checkIndex_df160 cJ0_checkIndex_df160 2 none 2 := ⟨⟨g_tb (i := 1227) (by decide +kernel) (by decide), zi_RJ0, zc_J0_checkIndex_df160, ⟨by decide, by decide⟩, by decide +kernel⟩, zs_J0_checkIndex_df160⟩
theorem zf_J5_73 : Cond.fieldLink RJ5 73 "java/lang/AbstractStringBuilder" "maybeLatin1" "Z" ∈ g_ws := g_tb (i := 69) (by decide +kernel) (by decide)
theorem zc_J5_append_cf1ce : Cond.code yJ5_append_cf1ce cJ5_append_cf1ce 3 (some (.object "java/lang/AbstractStringBuilder")) ∈ g_ws := g_tb (i := 1162) (by decide +kernel) (by decide)
theorem zn_J5_append_cf1ce : Cond.instanceMethod yJ5_append_cf1ce ∈ g_ws := g_tb (i := 1161) (by decide +kernel) (by decide)
theorem zk_J4_29 : g_MK RJ4 29 yJ5_append_cf1ce cJ5_append_cf1ce 3 (some (.object "java/lang/AbstractStringBuilder")) 1 := ⟨g_tb (i := 1160) (by decide +kernel) (by decide), zi_RJ5, zc_J5_append_cf1ce, ⟨by decide, by decide⟩, by decide +kernel⟩
theorem zm_J5_append_cf1ce : Cond.sameMethod yJ5_append_cf1ce.cls yJ5_append_cf1ce.cls yJ5_append_cf1ce.name yJ5_append_cf1ce.desc ∈ g_ws := g_tb (i := 1880) (by decide +kernel) (by decide)
theorem z_sup : Cond.superclass RJ4 RJ5 ∈ g_ws := g_tb (i := 79) (by decide +kernel) (by decide)
theorem zc_J5_append_3fe6f : Cond.code yJ5_append_3fe6f cJ5_append_3fe6f 2 (some (.object "java/lang/AbstractStringBuilder")) ∈ g_ws := g_tb (i := 1119) (by decide +kernel) (by decide)
theorem zn_J5_append_3fe6f : Cond.instanceMethod yJ5_append_3fe6f ∈ g_ws := g_tb (i := 1118) (by decide +kernel) (by decide)
theorem zk_J4_50 : g_MK RJ4 50 yJ5_append_3fe6f cJ5_append_3fe6f 2 (some (.object "java/lang/AbstractStringBuilder")) 1 := ⟨g_tb (i := 1117) (by decide +kernel) (by decide), zi_RJ5, zc_J5_append_3fe6f, ⟨by decide, by decide⟩, by decide +kernel⟩
theorem zm_J5_append_3fe6f : Cond.sameMethod yJ5_append_3fe6f.cls yJ5_append_3fe6f.cls yJ5_append_3fe6f.name yJ5_append_3fe6f.desc ∈ g_ws := g_tb (i := 1878) (by decide +kernel) (by decide)
theorem zc_J5_append_c97b9 : Cond.code yJ5_append_c97b9 cJ5_append_c97b9 4 (some (.object "java/lang/AbstractStringBuilder")) ∈ g_ws := g_tb (i := 1071) (by decide +kernel) (by decide)
theorem zn_J5_append_c97b9 : Cond.instanceMethod yJ5_append_c97b9 ∈ g_ws := g_tb (i := 1070) (by decide +kernel) (by decide)
theorem zk_J4_53 : g_MK RJ4 53 yJ5_append_c97b9 cJ5_append_c97b9 4 (some (.object "java/lang/AbstractStringBuilder")) 1 := ⟨g_tb (i := 1069) (by decide +kernel) (by decide), zi_RJ5, zc_J5_append_c97b9, ⟨by decide, by decide⟩, by decide +kernel⟩
theorem zm_J5_append_c97b9 : Cond.sameMethod yJ5_append_c97b9.cls yJ5_append_c97b9.cls yJ5_append_c97b9.name yJ5_append_c97b9.desc ∈ g_ws := g_tb (i := 1877) (by decide +kernel) (by decide)
theorem zc_J5_charAt_5068e : Cond.code yJ5_charAt_5068e cJ5_charAt_5068e 5 (some .char) ∈ g_ws := g_tb (i := 1225) (by decide +kernel) (by decide)
theorem zn_J5_charAt_5068e : Cond.instanceMethod yJ5_charAt_5068e ∈ g_ws := g_tb (i := 1224) (by decide +kernel) (by decide)
theorem zk_J4_329 : g_MK RJ4 329 yJ5_charAt_5068e cJ5_charAt_5068e 5 (some .char) 1 := ⟨g_tb (i := 1223) (by decide +kernel) (by decide), zi_RJ5, zc_J5_charAt_5068e, ⟨by decide, by decide⟩, by decide +kernel⟩
theorem zm_J5_charAt_5068e : Cond.sameMethod yJ5_charAt_5068e.cls yJ5_charAt_5068e.cls yJ5_charAt_5068e.name yJ5_charAt_5068e.desc ∈ g_ws := g_tb (i := 1885) (by decide +kernel) (by decide)
theorem zc_J5_setLength_d00df : Cond.code yJ5_setLength_d00df cJ5_setLength_d00df 2 none ∈ g_ws := g_tb (i := 1020) (by decide +kernel) (by decide)
theorem zn_J5_setLength_d00df : Cond.instanceMethod yJ5_setLength_d00df ∈ g_ws := g_tb (i := 1019) (by decide +kernel) (by decide)
theorem zk_J4_333 : g_MK RJ4 333 yJ5_setLength_d00df cJ5_setLength_d00df 2 none 1 := ⟨g_tb (i := 1018) (by decide +kernel) (by decide), zi_RJ5, zc_J5_setLength_d00df, ⟨by decide, by decide⟩, by decide +kernel⟩
theorem zm_J5_setLength_d00df : Cond.sameMethod yJ5_setLength_d00df.cls yJ5_setLength_d00df.cls yJ5_setLength_d00df.name yJ5_setLength_d00df.desc ∈ g_ws := g_tb (i := 1874) (by decide +kernel) (by decide)
theorem zc_J5_length_8abf5 : Cond.code yJ5_length_8abf5 cJ5_length_8abf5 1 (some .int) ∈ g_ws := g_tb (i := 1214) (by decide +kernel) (by decide)
theorem zn_J5_length_8abf5 : Cond.instanceMethod yJ5_length_8abf5 ∈ g_ws := g_tb (i := 1213) (by decide +kernel) (by decide)
theorem zk_J4_343 : g_MK RJ4 343 yJ5_length_8abf5 cJ5_length_8abf5 1 (some .int) 0 := ⟨g_tb (i := 1212) (by decide +kernel) (by decide), zi_RJ5, zc_J5_length_8abf5, ⟨by decide, by decide⟩, by decide +kernel⟩
theorem zm_J5_length_8abf5 : Cond.sameMethod yJ5_length_8abf5.cls yJ5_length_8abf5.cls yJ5_length_8abf5.name yJ5_length_8abf5.desc ∈ g_ws := g_tb (i := 1884) (by decide +kernel) (by decide)
