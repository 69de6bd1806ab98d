def f_X6_rowOf (rows : (Nat → Int32)) (i1 : Int32) (i2 : Int32) : Option (Int32) :=
  g_bd ((i1 * (8 : Int32)) + i2) fun x1 =>
  if x1 < 0 then
  (some (0 : Int32))
  else
  (if (192 : Int32) ≤ x1 then
  (some (0 : Int32))
  else
  (g_rd rows 192 x1 fun x2 =>
  some x2))
def f_X0_setTrim (lefts : (Nat → Int32)) (tops : (Nat → Int32)) (cwidths : (Nat → Int32)) (cheights : (Nat → Int32)) (i1 : Int32) (i2 : Int32) (i3 : Int32) (i4 : Int32) (i5 : Int32) : Option ((Nat → Int32) × (Nat → Int32) × (Nat → Int32) × (Nat → Int32)) :=
  g_wr lefts 24 i1 i2 fun f1 =>
  g_wr tops 24 i1 i3 fun f2 =>
  g_wr cwidths 24 i1 i4 fun f3 =>
  g_wr cheights 24 i1 i5 fun f4 =>
  some (f1, f2, f3, f4)
def f_X0_trim_L95 (x3 : Int32) (k134_7 : Int32 → Int32 → Option ((Nat → Int32) × (Nat → Int32) × (Nat → Int32) × (Nat → Int32))) : Nat → Int32 → Int32 → Int32 → Option ((Nat → Int32) × (Nat → Int32) × (Nat → Int32) × (Nat → Int32))
  | 0, _, _, _ => none
  | n+1, x10, x11, x12 =>
  if (8 : Int32) ≤ x12 then
  (k134_7 x10 x11)
  else
  (g_jn (fun (x13 : Int32) (x14 : Int32) =>
  g_bd (x12 + 1) fun x16 =>
  f_X0_trim_L95 x3 k134_7 n x13 x14 x16) fun j128_14 =>
  if ((g_ushr x3 ((4 : Int32) * x12)) &&& (15 : Int32)) = 0 then
  (j128_14 x10 x11)
  else
  (g_bd (g_min x10 x12) fun x17 =>
  j128_14 x17 x12))
def f_X0_trim_L13 (heights : (Nat → Int32)) (rows : (Nat → Int32)) (i1 : Int32) (k68_3 : Int32 → Int32 → Int32 → Option ((Nat → Int32) × (Nat → Int32) × (Nat → Int32) × (Nat → Int32))) : Nat → Int32 → Int32 → Int32 → Int32 → Option ((Nat → Int32) × (Nat → Int32) × (Nat → Int32) × (Nat → Int32))
  | 0, _, _, _, _ => none
  | n+1, x18, x19, x20, x21 =>
  g_rd heights 24 i1 fun x22 =>
  if x22 ≤ x21 then
  (k68_3 x18 x19 x20)
  else
  ((f_X6_rowOf rows i1 x21).bind fun r23 =>
  g_jn (fun (x24 : Int32) (x25 : Int32) (x26 : Int32) =>
  g_bd (x21 + 1) fun x28 =>
  f_X0_trim_L13 heights rows i1 k68_3 n x24 x25 x26 x28) fun j62_26 =>
  if r23 = 0 then
  (j62_26 x18 x19 x20)
  else
  (g_bd (if x18 = (-4 : Int32) then x21 else x18) fun x29 =>
  g_bd (x20 ||| r23) fun x30 =>
  j62_26 x29 x21 x30))
def f_X0_trim (lefts : (Nat → Int32)) (tops : (Nat → Int32)) (cwidths : (Nat → Int32)) (cheights : (Nat → Int32)) (heights : (Nat → Int32)) (rows : (Nat → Int32)) (i1 : Int32) : Option ((Nat → Int32) × (Nat → Int32) × (Nat → Int32) × (Nat → Int32)) :=
  g_jn (fun (x1 : Int32) (x2 : Int32) (x3 : Int32) =>
  if x3 = 0 then
  ((f_X0_setTrim lefts tops cwidths cheights i1 (-4 : Int32) (-4 : Int32) (0 : Int32) (0 : Int32)).bind fun r5 =>
  some (r5.1, r5.2.1, r5.2.2.1, r5.2.2.2))
  else
  (g_jn (fun (x6 : Int32) (x7 : Int32) =>
  (f_X0_setTrim lefts tops cwidths cheights i1 x6 x1 ((x7 - x6) + (1 : Int32)) ((x2 - x1) + (1 : Int32))).bind fun r9 =>
  some (r9.1, r9.2.1, r9.2.2.1, r9.2.2.2)) fun k134_7 =>
  f_X0_trim_L95 x3 k134_7 g_fuel (8 : Int32) (0 : Int32) (0 : Int32))) fun k68_3 =>
  f_X0_trim_L13 heights rows i1 k68_3 g_fuel (-4 : Int32) (-4 : Int32) (0 : Int32) (0 : Int32)
def f_X5_matchedOrientations (matching : Int32) : Int32 :=
  if matching = 0 then
  ((0 : Int32))
  else
  (if matching = (1 : Int32) then
  ((1 : Int32))
  else
  (if matching = (2 : Int32) then
  ((4 : Int32))
  else
  ((8 : Int32))))
def f_X0_isBlank (cwidths : (Nat → Int32)) (i1 : Int32) : Option (Int32) :=
  g_rd cwidths 24 i1 fun x1 =>
  if x1 = 0 then
  (some (1 : Int32))
  else
  (some (0 : Int32))
def f_X0_isOriginal (cwidths : (Nat → Int32)) (originals : (Nat → Int32)) (i1 : Int32) : Option (Int32) :=
  (f_X0_isBlank cwidths i1).bind fun r1 =>
  if r1 = 0 then
  (g_rd originals 24 i1 fun x2 =>
  if x2 = (-4 : Int32) then
  (some (1 : Int32))
  else
  (some (0 : Int32)))
  else
  (some (0 : Int32))
def f_X6_colorAt (rows : (Nat → Int32)) (i1 : Int32) (i2 : Int32) (i3 : Int32) : Option (Int32) :=
  g_bd ((i1 * (8 : Int32)) + i3) fun x1 =>
  if x1 < 0 then
  (some (0 : Int32))
  else
  (if (192 : Int32) ≤ x1 then
  (some (0 : Int32))
  else
  (g_rd rows 192 x1 fun x2 =>
  some ((g_ushr x2 ((4 : Int32) * i2)) &&& (15 : Int32))))
def f_X0_colorIn (lefts : (Nat → Int32)) (tops : (Nat → Int32)) (cwidths : (Nat → Int32)) (cheights : (Nat → Int32)) (rows : (Nat → Int32)) (i1 : Int32) (i2 : Int32) (i3 : Int32) (i4 : Int32) : Option (Int32) :=
  g_rd cwidths 24 i1 fun x1 =>
  g_bd (x1 - (1 : Int32)) fun x2 =>
  g_rd cheights 24 i1 fun x3 =>
  g_bd (x3 - (1 : Int32)) fun x4 =>
  g_bd (g_rem i2 (4 : Int32)) fun x5 =>
  g_jn (fun (x6 : Int32) (x7 : Int32) =>
  g_bd (if i2 < (4 : Int32) then x6 else (x2 - x6)) fun x9 =>
  g_rd lefts 24 i1 fun x10 =>
  g_rd tops 24 i1 fun x11 =>
  (f_X6_colorAt rows i1 (x10 + x9) (x11 + x7)).bind fun r12 =>
  some r12) fun j93_7 =>
  if x5 = (1 : Int32) then
  (g_bd (x4 - i3) fun x13 =>
  j93_7 i4 x13)
  else
  (if x5 = (2 : Int32) then
  (g_bd (x2 - i3) fun x14 =>
  g_bd (x4 - i4) fun x15 =>
  j93_7 x14 x15)
  else
  (if x5 = (3 : Int32) then
  (g_bd (x2 - i4) fun x16 =>
  j93_7 x16 i3)
  else
  (j93_7 i3 i4)))
def f_X0_matches_L96 (lefts : (Nat → Int32)) (tops : (Nat → Int32)) (cwidths : (Nat → Int32)) (cheights : (Nat → Int32)) (rows : (Nat → Int32)) (i1 : Int32) (i2 : Int32) (i3 : Int32) (x2 : Int32) (x8 : Int32) (k137_8 : Option (Int32)) : Nat → Int32 → Option (Int32)
  | 0, _ => none
  | n+1, x11 =>
  if x2 ≤ x11 then
  (k137_8)
  else
  ((f_X0_colorIn lefts tops cwidths cheights rows i1 (0 : Int32) x11 x8).bind fun r12 =>
  (f_X0_colorIn lefts tops cwidths cheights rows i2 i3 x11 x8).bind fun r13 =>
  if r12 = r13 then
  (g_bd (x11 + 1) fun x14 =>
  f_X0_matches_L96 lefts tops cwidths cheights rows i1 i2 i3 x2 x8 k137_8 n x14)
  else
  (some (0 : Int32)))
def f_X0_matches_L86 (lefts : (Nat → Int32)) (tops : (Nat → Int32)) (cwidths : (Nat → Int32)) (cheights : (Nat → Int32)) (rows : (Nat → Int32)) (i1 : Int32) (i2 : Int32) (i3 : Int32) (x2 : Int32) (x4 : Int32) : Nat → Int32 → Option (Int32)
  | 0, _ => none
  | n+1, x8 =>
  if x4 ≤ x8 then
  (some (1 : Int32))
  else
  (g_jn (g_bd (x8 + 1) fun x10 =>
  f_X0_matches_L86 lefts tops cwidths cheights rows i1 i2 i3 x2 x4 n x10) fun k137_8 =>
  f_X0_matches_L96 lefts tops cwidths cheights rows i1 i2 i3 x2 x8 k137_8 g_fuel (0 : Int32))
def f_X0_matches (lefts : (Nat → Int32)) (tops : (Nat → Int32)) (cwidths : (Nat → Int32)) (cheights : (Nat → Int32)) (rows : (Nat → Int32)) (i1 : Int32) (i2 : Int32) (i3 : Int32) : Option (Int32) :=
  g_bd (if (g_rem i3 (2 : Int32)) = (1 : Int32) then (1 : Int32) else (0 : Int32)) fun x1 =>
  g_jn (fun (x2 : Int32) =>
  g_jn (fun (x4 : Int32) =>
  g_rd cwidths 24 i1 fun x6 =>
  if x6 = x2 then
  (g_rd cheights 24 i1 fun x7 =>
  if x7 = x4 then
  (f_X0_matches_L86 lefts tops cwidths cheights rows i1 i2 i3 x2 x4 g_fuel (0 : Int32))
  else
  (some (0 : Int32)))
  else
  (some (0 : Int32))) fun j57_4 =>
  if x1 = 0 then
  (g_rd cheights 24 i2 fun x15 =>
  j57_4 x15)
  else
  (g_rd cwidths 24 i2 fun x16 =>
  j57_4 x16)) fun j35_2 =>
  if x1 = 0 then
  (g_rd cwidths 24 i2 fun x17 =>
  j35_2 x17)
  else
  (g_rd cheights 24 i2 fun x18 =>
  j35_2 x18)
def f_X0_findOriginal_L37 (lefts : (Nat → Int32)) (tops : (Nat → Int32)) (cwidths : (Nat → Int32)) (cheights : (Nat → Int32)) (rows : (Nat → Int32)) (i1 : Int32) (i2 : Int32) (f1 : (Nat → Int32)) (x9 : Int32) (k65_10 : Int32 → Option ((Nat → Int32) × (Nat → Int32))) (k88_11 : Option ((Nat → Int32) × (Nat → Int32))) : Nat → Int32 → Option ((Nat → Int32) × (Nat → Int32))
  | 0, _ => none
  | n+1, x14 =>
  if i2 ≤ x14 then
  (k88_11)
  else
  ((f_X0_isOriginal cwidths f1 x9).bind fun r15 =>
  if r15 = 0 then
  (k88_11)
  else
  ((f_X0_matches lefts tops cwidths cheights rows i1 x9 x14).bind fun r16 =>
  if r16 = 0 then
  (g_bd (x14 + 1) fun x17 =>
  f_X0_findOriginal_L37 lefts tops cwidths cheights rows i1 i2 f1 x9 k65_10 k88_11 n x17)
  else
  (k65_10 x14)))
def f_X0_findOriginal_L28 (lefts : (Nat → Int32)) (tops : (Nat → Int32)) (cwidths : (Nat → Int32)) (cheights : (Nat → Int32)) (rows : (Nat → Int32)) (i1 : Int32) (i2 : Int32) (f1 : (Nat → Int32)) (f2 : (Nat → Int32)) (k65_5 : Int32 → Int32 → Option ((Nat → Int32) × (Nat → Int32))) : Nat → Int32 → Option ((Nat → Int32) × (Nat → Int32))
  | 0, _ => none
  | n+1, x9 =>
  if i1 ≤ x9 then
  (some (f1, f2))
  else
  (g_jn (fun (x10 : Int32) =>
  k65_5 x9 x10) fun k65_10 =>
  g_jn (g_bd (x9 + 1) fun x13 =>
  f_X0_findOriginal_L28 lefts tops cwidths cheights rows i1 i2 f1 f2 k65_5 n x13) fun k88_11 =>
  f_X0_findOriginal_L37 lefts tops cwidths cheights rows i1 i2 f1 x9 k65_10 k88_11 g_fuel (0 : Int32))
def f_X0_findOriginal (lefts : (Nat → Int32)) (tops : (Nat → Int32)) (cwidths : (Nat → Int32)) (cheights : (Nat → Int32)) (originals : (Nat → Int32)) (orients : (Nat → Int32)) (rows : (Nat → Int32)) (i1 : Int32) (i2 : Int32) : Option ((Nat → Int32) × (Nat → Int32)) :=
  g_wr originals 24 i1 (-4 : Int32) fun f1 =>
  g_wr orients 24 i1 (-4 : Int32) fun f2 =>
  (f_X0_isBlank cwidths i1).bind fun r3 =>
  if r3 = 0 then
  (g_jn (fun (x4 : Int32) (x5 : Int32) =>
  g_wr f1 24 i1 x4 fun f7 =>
  g_wr f2 24 i1 x5 fun f8 =>
  some (f7, f8)) fun k65_5 =>
  f_X0_findOriginal_L28 lefts tops cwidths cheights rows i1 i2 f1 f2 k65_5 g_fuel (0 : Int32))
  else
  (some (f1, f2))
def f_X0_study_L2 (count : Int32) (widths : (Nat → Int32)) (heights : (Nat → Int32)) (rows : (Nat → Int32)) (trimming : Int32) (matching : Int32) : Nat → Int32 → (Nat → Int32) → (Nat → Int32) → (Nat → Int32) → (Nat → Int32) → (Nat → Int32) → (Nat → Int32) → Option ((Nat → Int32) × (Nat → Int32) × (Nat → Int32) × (Nat → Int32) × (Nat → Int32) × (Nat → Int32))
  | 0, _, _, _, _, _, _, _ => none
  | n+1, x1, f2, f3, f4, f5, f6, f7 =>
  if count ≤ x1 then
  (some (f2, f3, f4, f5, f6, f7))
  else
  (g_jn (fun (f8 : Nat → Int32) (f9 : Nat → Int32) (f10 : Nat → Int32) (f11 : Nat → Int32) =>
  (f_X0_findOriginal f8 f9 f10 f11 f6 f7 rows x1 (f_X5_matchedOrientations matching)).bind fun r13 =>
  g_bd (x1 + 1) fun x14 =>
  f_X0_study_L2 count widths heights rows trimming matching n x14 f8 f9 f10 f11 r13.1 r13.2) fun j45_11 =>
  if trimming = 0 then
  (g_rd widths 24 x1 fun x15 =>
  g_rd heights 24 x1 fun x16 =>
  (f_X0_setTrim f2 f3 f4 f5 x1 (0 : Int32) (0 : Int32) x15 x16).bind fun r17 =>
  j45_11 r17.1 r17.2.1 r17.2.2.1 r17.2.2.2)
  else
  ((f_X0_trim f2 f3 f4 f5 heights rows x1).bind fun r18 =>
  j45_11 r18.1 r18.2.1 r18.2.2.1 r18.2.2.2))
def f_X0_study (lefts : (Nat → Int32)) (tops : (Nat → Int32)) (cwidths : (Nat → Int32)) (cheights : (Nat → Int32)) (originals : (Nat → Int32)) (orients : (Nat → Int32)) (count : Int32) (widths : (Nat → Int32)) (heights : (Nat → Int32)) (rows : (Nat → Int32)) (trimming : Int32) (matching : Int32) : Option ((Nat → Int32) × (Nat → Int32) × (Nat → Int32) × (Nat → Int32) × (Nat → Int32) × (Nat → Int32)) :=
  f_X0_study_L2 count widths heights rows trimming matching g_fuel (0 : Int32) lefts tops cwidths cheights originals orients
def f_X0_sourceOf (cwidths : (Nat → Int32)) (originals : (Nat → Int32)) (i1 : Int32) : Option (Int32) :=
  (f_X0_isBlank cwidths i1).bind fun r1 =>
  if r1 = 0 then
  (g_rd originals 24 i1 fun x2 =>
  if x2 = (-4 : Int32) then
  (some i1)
  else
  (g_rd originals 24 i1 fun x3 =>
  some x3))
  else
  (some (-4 : Int32))
def f_X0_afterTurn (i1 : Int32) : Int32 :=
  if (4 : Int32) ≤ i1 then
  (((4 : Int32) + (g_rem (i1 + (3 : Int32)) (4 : Int32))))
  else
  ((g_rem (i1 + (1 : Int32)) (4 : Int32)))
def f_X0_findRecord_L3 (lefts : (Nat → Int32)) (tops : (Nat → Int32)) (cwidths : (Nat → Int32)) (cheights : (Nat → Int32)) (rows : (Nat → Int32)) (i1 : Int32) (i2 : Int32) (i3 : Int32) : Nat → Int32 → Option (Int32)
  | 0, _ => none
  | n+1, x1 =>
  if (8 : Int32) ≤ x1 then
  (some (-4 : Int32))
  else
  (g_bd (if i3 = 0 then x1 else (f_X0_afterTurn x1)) fun x2 =>
  (f_X0_matches lefts tops cwidths cheights rows i1 i2 x2).bind fun r3 =>
  if r3 = 0 then
  (g_bd (x1 + 1) fun x4 =>
  f_X0_findRecord_L3 lefts tops cwidths cheights rows i1 i2 i3 n x4)
  else
  (some x1))
def f_X0_findRecord (lefts : (Nat → Int32)) (tops : (Nat → Int32)) (cwidths : (Nat → Int32)) (cheights : (Nat → Int32)) (rows : (Nat → Int32)) (i1 : Int32) (i2 : Int32) (i3 : Int32) : Option (Int32) :=
  f_X0_findRecord_L3 lefts tops cwidths cheights rows i1 i2 i3 g_fuel (0 : Int32)
def f_X1_startOn (i1 : Int32) : Int32 × Int32 :=
  ((0 : Int32), i1)
def f_X7_leftIn (i1 : Int32) : Int32 :=
  ((g_shr i1 (12 : Int32)) &&& (63 : Int32))
def f_X7_topIn (i1 : Int32) : Int32 :=
  (g_shr i1 (18 : Int32))
def f_X1_offer (chFound : Int32) (chCol : Int32) (chRow : Int32) (chTurned : Int32) (chFirst : Int32) (chSecond : Int32) (i1 : Int32) (i2 : Int32) (i3 : Int32) (i4 : Int32) : Option (Int32 × Int32 × Int32 × Int32 × Int32 × Int32) :=
  g_jn (fun (x1 : Int32) =>
  g_jn (g_bd (f_X7_leftIn i1) fun x4 =>
  g_bd (f_X7_topIn i1) fun x5 =>
  g_z i2 <|
  some ((1 : Int32), x4, x5, i2, i3, i4)) fun j45_2 =>
  if chFound = 0 then
  (j45_2)
  else
  (if x1 = 0 then
  (some (chFound, chCol, chRow, chTurned, chFirst, chSecond))
  else
  (j45_2))) fun j30_1 =>
  g_jn (j30_1 (1 : Int32)) fun j25_6 =>
  if i3 < chFirst then
  (j25_6)
  else
  (g_jn (j30_1 (0 : Int32)) fun j29_7 =>
  if i3 = chFirst then
  (if chSecond ≤ i4 then
  (j29_7)
  else
  (j25_6))
  else
  (j29_7))
def f_X6_copyFrom (widths : (Nat → Int32)) (heights : (Nat → Int32)) (groups : (Nat → Int32)) (rows : (Nat → Int32)) (count1 : Int32) (widths1 : (Nat → Int32)) (heights1 : (Nat → Int32)) (groups1 : (Nat → Int32)) (rows1 : (Nat → Int32)) : Option (Int32 × (Nat → Int32) × (Nat → Int32) × (Nat → Int32) × (Nat → Int32)) :=
  g_cpy widths1 24 (0 : Int32) widths 24 (0 : Int32) (24 : Int32) fun f1 =>
  g_cpy heights1 24 (0 : Int32) heights 24 (0 : Int32) (24 : Int32) fun f2 =>
  g_cpy groups1 24 (0 : Int32) groups 24 (0 : Int32) (24 : Int32) fun f3 =>
  g_cpy rows1 192 (0 : Int32) rows 192 (0 : Int32) (192 : Int32) fun f4 =>
  some (count1, f1, f2, f3, f4)
def f_X5_copyFrom (pageWidth1 : Int32) (pageHeight1 : Int32) (pageLimit1 : Int32) (padding1 : Int32) (border1 : Int32) (extrusion1 : Int32) (trimming1 : Int32) (matching1 : Int32) (rotation1 : Int32) (grouped1 : Int32) (order1 : Int32) (way1 : Int32) : Option (Int32 × Int32 × Int32 × Int32 × Int32 × Int32 × Int32 × Int32 × Int32 × Int32 × Int32 × Int32) :=
  g_z trimming1 <|
  g_z rotation1 <|
  g_z grouped1 <|
  some (pageWidth1, pageHeight1, pageLimit1, padding1, border1, extrusion1, trimming1, matching1, rotation1, grouped1, order1, way1)
def f_X4_copyFrom (pageGroups : (Nat → Int32)) (pages : (Nat → Int32)) (columns : (Nat → Int32)) (rowsP : (Nat → Int32)) (turned : (Nat → Int32)) (pageCount1 : Int32) (pageGroups1 : (Nat → Int32)) (pages1 : (Nat → Int32)) (columns1 : (Nat → Int32)) (rowsP1 : (Nat → Int32)) (turned1 : (Nat → Int32)) : Option (Int32 × (Nat → Int32) × (Nat → Int32) × (Nat → Int32) × (Nat → Int32) × (Nat → Int32)) :=
  g_cpy pageGroups1 4 (0 : Int32) pageGroups 4 (0 : Int32) (4 : Int32) fun f1 =>
  g_cpy pages1 24 (0 : Int32) pages 24 (0 : Int32) (24 : Int32) fun f2 =>
  g_cpy columns1 24 (0 : Int32) columns 24 (0 : Int32) (24 : Int32) fun f3 =>
  g_cpy rowsP1 24 (0 : Int32) rowsP 24 (0 : Int32) (24 : Int32) fun f4 =>
  g_cpyZ turned1 24 (0 : Int32) turned 24 (0 : Int32) (24 : Int32) fun f5 =>
  some (pageCount1, f1, f2, f3, f4, f5)
def f_X8_copyFrom (S : (Nat → Nat → Int32)) (S2 : (Nat → Nat → Int32)) : Option ((Nat → Nat → Int32)) :=
  (f_X6_copyFrom (S 1) (S 2) (S 3) (S 4) (S2 0 0) (S2 1) (S2 2) (S2 3) (S2 4)).bind fun r1 =>
  (f_X5_copyFrom (S2 5 0) (S2 5 1) (S2 5 2) (S2 5 3) (S2 5 4) (S2 5 5) (S2 5 6) (S2 5 7) (S2 5 8) (S2 5 9) (S2 5 10) (S2 5 11)).bind fun r2 =>
  (f_X4_copyFrom (S 7) (S 8) (S 9) (S 10) (S 11) (S2 6 0) (S2 7) (S2 8) (S2 9) (S2 10) (S2 11)).bind fun r3 =>
  some (updC (updC (updC (updC (updC (updC (updC (updC (updC (updC (updC (updC S 0 (upd (S 0) 0 r1.1)) 1 r1.2.1) 2 r1.2.2.1) 3 r1.2.2.2.1) 4 r1.2.2.2.2) 5 (upd (upd (upd (upd (upd (upd (upd (upd (upd (upd (upd (upd (S 5) 0 r2.1) 1 r2.2.1) 10 r2.2.2.2.2.2.2.2.2.2.2.1) 11 r2.2.2.2.2.2.2.2.2.2.2.2) 2 r2.2.2.1) 3 r2.2.2.2.1) 4 r2.2.2.2.2.1) 5 r2.2.2.2.2.2.1) 6 r2.2.2.2.2.2.2.1) 7 r2.2.2.2.2.2.2.2.1) 8 r2.2.2.2.2.2.2.2.2.1) 9 r2.2.2.2.2.2.2.2.2.2.1)) 6 (upd (S 6) 0 r3.1)) 7 r3.2.1) 8 r3.2.2.1) 9 r3.2.2.2.1) 10 r3.2.2.2.2.1) 11 r3.2.2.2.2.2)
def f_X2_record (hLatest : Int32) (hCount : Int32) (H0 : (Nat → Nat → Int32)) (H1 : (Nat → Nat → Int32)) (H2 : (Nat → Nat → Int32)) (H3 : (Nat → Nat → Int32)) (H4 : (Nat → Nat → Int32)) (S2 : (Nat → Nat → Int32)) : Option (Int32 × Int32 × (Nat → Nat → Int32) × (Nat → Nat → Int32) × (Nat → Nat → Int32) × (Nat → Nat → Int32) × (Nat → Nat → Int32)) :=
  g_bd (g_rem (hLatest + (1 : Int32)) (5 : Int32)) fun x1 =>
  if x1 = 0 then
  ((f_X8_copyFrom H0 S2).bind fun r2 =>
  g_bd (g_min (hCount + (1 : Int32)) (5 : Int32)) fun x3 =>
  some (x1, x3, r2, H1, H2, H3, H4))
  else (if x1 = 1 then
  ((f_X8_copyFrom H1 S2).bind fun r4 =>
  g_bd (g_min (hCount + (1 : Int32)) (5 : Int32)) fun x5 =>
  some (x1, x5, H0, r4, H2, H3, H4))
  else (if x1 = 2 then
  ((f_X8_copyFrom H2 S2).bind fun r6 =>
  g_bd (g_min (hCount + (1 : Int32)) (5 : Int32)) fun x7 =>
  some (x1, x7, H0, H1, r6, H3, H4))
  else (if x1 = 3 then
  ((f_X8_copyFrom H3 S2).bind fun r8 =>
  g_bd (g_min (hCount + (1 : Int32)) (5 : Int32)) fun x9 =>
  some (x1, x9, H0, H1, H2, r8, H4))
  else (if x1 = 4 then
  ((f_X8_copyFrom H4 S2).bind fun r10 =>
  g_bd (g_min (hCount + (1 : Int32)) (5 : Int32)) fun x11 =>
  some (x1, x11, H0, H1, H2, H3, r10))
  else (none)))))
def f_X2_takeBack (hLatest : Int32) (hCount : Int32) (H0 : (Nat → Nat → Int32)) (H1 : (Nat → Nat → Int32)) (H2 : (Nat → Nat → Int32)) (H3 : (Nat → Nat → Int32)) (H4 : (Nat → Nat → Int32)) (S2 : (Nat → Nat → Int32)) : Option (Int32 × Int32 × (Nat → Nat → Int32)) :=
  if hLatest = 0 then
  (if hCount ≤ 0 then
  (some (hLatest, hCount, S2))
  else
  ((f_X8_copyFrom S2 H0).bind fun r1 =>
  g_bd (hCount - (1 : Int32)) fun x2 =>
  g_bd (g_rem ((hLatest + (5 : Int32)) - (1 : Int32)) (5 : Int32)) fun x3 =>
  some (x3, x2, r1)))
  else (if hLatest = 1 then
  (if hCount ≤ 0 then
  (some (hLatest, hCount, S2))
  else
  ((f_X8_copyFrom S2 H1).bind fun r4 =>
  g_bd (hCount - (1 : Int32)) fun x5 =>
  g_bd (g_rem ((hLatest + (5 : Int32)) - (1 : Int32)) (5 : Int32)) fun x6 =>
  some (x6, x5, r4)))
  else (if hLatest = 2 then
  (if hCount ≤ 0 then
  (some (hLatest, hCount, S2))
  else
  ((f_X8_copyFrom S2 H2).bind fun r7 =>
  g_bd (hCount - (1 : Int32)) fun x8 =>
  g_bd (g_rem ((hLatest + (5 : Int32)) - (1 : Int32)) (5 : Int32)) fun x9 =>
  some (x9, x8, r7)))
  else (if hLatest = 3 then
  (if hCount ≤ 0 then
  (some (hLatest, hCount, S2))
  else
  ((f_X8_copyFrom S2 H3).bind fun r10 =>
  g_bd (hCount - (1 : Int32)) fun x11 =>
  g_bd (g_rem ((hLatest + (5 : Int32)) - (1 : Int32)) (5 : Int32)) fun x12 =>
  some (x12, x11, r10)))
  else (if hLatest = 4 then
  (if hCount ≤ 0 then
  (some (hLatest, hCount, S2))
  else
  ((f_X8_copyFrom S2 H4).bind fun r13 =>
  g_bd (hCount - (1 : Int32)) fun x14 =>
  g_bd (g_rem ((hLatest + (5 : Int32)) - (1 : Int32)) (5 : Int32)) fun x15 =>
  some (x15, x14, r13)))
  else (none)))))
def f_J7_fill_53178_L5 (n_p0 : Nat) (i1 : Int32) : Nat → Int32 → (Nat → Int32) → Option ((Nat → Int32))
  | 0, _, _ => none
  | n+1, x1, f2 =>
  if (Int32.ofNat n_p0) ≤ x1 then
  (some f2)
  else
  (g_wr f2 n_p0 x1 i1 fun f3 =>
  g_bd (x1 + 1) fun x4 =>
  f_J7_fill_53178_L5 n_p0 i1 n x4 f3)
def f_J7_fill_53178 (n_p0 : Nat) (arr : (Nat → Int32)) (i1 : Int32) : Option ((Nat → Int32)) :=
  f_J7_fill_53178_L5 n_p0 i1 g_fuel (0 : Int32) arr
def f_X4_removeAll (pages : (Nat → Int32)) : Option (Int32 × (Nat → Int32)) :=
  (f_J7_fill_53178 24 pages (-4 : Int32)).bind fun r1 =>
  some ((0 : Int32), r1)
def f_X3_rankOf (S : (Nat → Nat → Int32)) (cwidths : (Nat → Int32)) (cheights : (Nat → Int32)) (i1 : Int32) : Option (Int32) :=
  g_rd cwidths 24 i1 fun x1 =>
  g_rd cheights 24 i1 fun x2 =>
  if (S 5 10) = 1 then
  (some (x1 * x2))
  else (if (S 5 10) = 2 then
  (some (((10 : Int32) * (g_max x1 x2)) + (g_min x1 x2)))
  else (if (S 5 10) = 3 then
  (some (((10 : Int32) * x2) + x1))
  else (some (0 : Int32))))
def f_X3_lineUp_L31 (S : Nat → Nat → Int32) (cwidths : (Nat → Int32)) (cheights : (Nat → Int32)) (x2 : Int32) (k75_10 : Int32 → (Nat → Int32) → Option (Int32 × (Nat → Int32))) : Nat → Int32 → (Nat → Int32) → Option (Int32 × (Nat → Int32))
  | 0, _, _ => none
  | n+1, x14, f15 =>
  if x14 ≤ 0 then
  (k75_10 x14 f15)
  else
  (g_rd f15 24 (x14 - (1 : Int32)) fun x16 =>
  (f_X3_rankOf S cwidths cheights x16).bind fun r17 =>
  (f_X3_rankOf S cwidths cheights x2).bind fun r18 =>
  if r18 ≤ r17 then
  (k75_10 x14 f15)
  else
  (g_rd f15 24 (x14 - (1 : Int32)) fun x19 =>
  g_wr f15 24 x14 x19 fun f20 =>
  g_bd (x14 + (-1)) fun x21 =>
  f_X3_lineUp_L31 S cwidths cheights x2 k75_10 n x21 f20))
def f_X3_lineUp_L4 (S : Nat → Nat → Int32) (cwidths : (Nat → Int32)) (cheights : (Nat → Int32)) (originals : (Nat → Int32)) : Nat → Int32 → Int32 → (Nat → Int32) → Option (Int32 × (Nat → Int32))
  | 0, _, _, _ => none
  | n+1, x1, x2, f3 =>
  if (S 0 0) ≤ x2 then
  (some (x1, f3))
  else
  ((f_X0_isOriginal cwidths originals x2).bind fun r4 =>
  g_jn (fun (x5 : Int32) (f6 : Nat → Int32) =>
  g_bd (x2 + 1) fun x8 =>
  f_X3_lineUp_L4 S cwidths cheights originals n x5 x8 f6) fun j85_6 =>
  if r4 = 0 then
  (j85_6 x1 f3)
  else
  (g_jn (fun (x9 : Int32) (f10 : Nat → Int32) =>
  g_wr f10 24 x9 x2 fun f12 =>
  g_bd (x1 + 1) fun x13 =>
  j85_6 x13 f12) fun k75_10 =>
  f_X3_lineUp_L31 S cwidths cheights x2 k75_10 g_fuel x1 f3))
def f_X3_lineUp (line : (Nat → Int32)) (S : (Nat → Nat → Int32)) (cwidths : (Nat → Int32)) (cheights : (Nat → Int32)) (originals : (Nat → Int32)) : Option (Int32 × (Nat → Int32)) :=
  f_X3_lineUp_L4 S cwidths cheights originals g_fuel (0 : Int32) (0 : Int32) line
def f_X4_isEmptyPage_L2 (pages : (Nat → Int32)) (i1 : Int32) : Nat → Int32 → Option (Int32)
  | 0, _ => none
  | n+1, x1 =>
  if (24 : Int32) ≤ x1 then
  (some (1 : Int32))
  else
  (g_rd pages 24 x1 fun x2 =>
  if x2 = i1 then
  (some (0 : Int32))
  else
  (g_bd (x1 + 1) fun x3 =>
  f_X4_isEmptyPage_L2 pages i1 n x3))
def f_X4_isEmptyPage (pages : (Nat → Int32)) (i1 : Int32) : Option (Int32) :=
  f_X4_isEmptyPage_L2 pages i1 g_fuel (0 : Int32)
def f_X3_isOpenTo (S : (Nat → Nat → Int32)) (i1 : Int32) (i2 : Int32) : Option (Int32) :=
  if (S 5 9) = 0 then
  (some (1 : Int32))
  else
  (g_rd (S 7) 4 i1 fun x1 =>
  g_rd (S 3) 24 i2 fun x2 =>
  if x1 = x2 then
  (some (1 : Int32))
  else
  ((f_X4_isEmptyPage (S 8) i1).bind fun r3 =>
  if r3 = 0 then
  (some (0 : Int32))
  else
  (some (1 : Int32))))
def f_X7_codeOf (codes : (Nat → Int32)) (i1 : Int32) (i2 : Int32) : Option (Int32) :=
  g_rd codes 1396 ((i1 * (349 : Int32)) + i2) fun x1 =>
  some x1
def f_X5_boxGrowth (padding : Int32) (extrusion : Int32) : Int32 :=
  (((2 : Int32) * extrusion) + padding)
def f_X3_boxWidth (S : (Nat → Nat → Int32)) (cwidths : (Nat → Int32)) (cheights : (Nat → Int32)) (i1 : Int32) (i2 : Int32) : Option (Int32) :=
  g_jn (fun (x1 : Int32) =>
  some (x1 + (f_X5_boxGrowth (S 5 3) (S 5 5)))) fun j25_1 =>
  if i2 = 0 then
  (g_rd cwidths 24 i1 fun x3 =>
  j25_1 x3)
  else
  (g_rd cheights 24 i1 fun x4 =>
  j25_1 x4)
def f_X3_boxHeight (S : (Nat → Nat → Int32)) (cwidths : (Nat → Int32)) (cheights : (Nat → Int32)) (i1 : Int32) (i2 : Int32) : Option (Int32) :=
  g_jn (fun (x1 : Int32) =>
  some (x1 + (f_X5_boxGrowth (S 5 3) (S 5 5)))) fun j25_1 =>
  if i2 = 0 then
  (g_rd cheights 24 i1 fun x3 =>
  j25_1 x3)
  else
  (g_rd cwidths 24 i1 fun x4 =>
  j25_1 x4)
def f_X7_widthIn (i1 : Int32) : Int32 :=
  ((g_shr i1 (6 : Int32)) &&& (63 : Int32))
def f_X7_heightIn (i1 : Int32) : Int32 :=
  (i1 &&& (63 : Int32))
def f_X3_offer (chFound : Int32) (chCol : Int32) (chRow : Int32) (chTurned : Int32) (chFirst : Int32) (chSecond : Int32) (S : (Nat → Nat → Int32)) (cwidths : (Nat → Int32)) (cheights : (Nat → Int32)) (i1 : Int32) (i2 : Int32) (i3 : Int32) : Option (Int32 × Int32 × Int32 × Int32 × Int32 × Int32) :=
  (f_X3_boxWidth S cwidths cheights i2 i3).bind fun r1 =>
  (f_X3_boxHeight S cwidths cheights i2 i3).bind fun r2 =>
  g_bd ((f_X7_widthIn i1) - r1) fun x3 =>
  g_bd ((f_X7_heightIn i1) - r2) fun x4 =>
  if x3 < 0 then
  (some (chFound, chCol, chRow, chTurned, chFirst, chSecond))
  else
  (if 0 ≤ x4 then
  (g_bd (g_min x3 x4) fun x5 =>
  g_bd (g_max x3 x4) fun x6 =>
  if (S 5 11) = 1 then
  ((f_X1_offer chFound chCol chRow chTurned chFirst chSecond i1 i3 x6 x5).bind fun r7 =>
  some (r7.1, r7.2.1, r7.2.2.1, r7.2.2.2.1, r7.2.2.2.2.1, r7.2.2.2.2.2))
  else (if (S 5 11) = 2 then
  ((f_X1_offer chFound chCol chRow chTurned chFirst chSecond i1 i3 (((f_X7_widthIn i1) * (f_X7_heightIn i1)) - (r1 * r2)) x5).bind fun r8 =>
  some (r8.1, r8.2.1, r8.2.2.1, r8.2.2.2.1, r8.2.2.2.2.1, r8.2.2.2.2.2))
  else (if (S 5 11) = 3 then
  ((f_X1_offer chFound chCol chRow chTurned chFirst chSecond i1 i3 ((f_X7_topIn i1) + r2) (f_X7_leftIn i1)).bind fun r9 =>
  some (r9.1, r9.2.1, r9.2.2.1, r9.2.2.2.1, r9.2.2.2.2.1, r9.2.2.2.2.2))
  else ((f_X1_offer chFound chCol chRow chTurned chFirst chSecond i1 i3 x5 x6).bind fun r10 =>
  some (r10.1, r10.2.1, r10.2.2.1, r10.2.2.2.1, r10.2.2.2.2.1, r10.2.2.2.2.2)))))
  else
  (some (chFound, chCol, chRow, chTurned, chFirst, chSecond)))
def f_X3_offerBoth (chFound : Int32) (chCol : Int32) (chRow : Int32) (chTurned : Int32) (chFirst : Int32) (chSecond : Int32) (S : (Nat → Nat → Int32)) (cwidths : (Nat → Int32)) (cheights : (Nat → Int32)) (i1 : Int32) (i2 : Int32) : Option (Int32 × Int32 × Int32 × Int32 × Int32 × Int32) :=
  (f_X3_offer chFound chCol chRow chTurned chFirst chSecond S cwidths cheights i1 i2 (0 : Int32)).bind fun r1 =>
  if (S 5 8) = 0 then
  (some (r1.1, r1.2.1, r1.2.2.1, r1.2.2.2.1, r1.2.2.2.2.1, r1.2.2.2.2.2))
  else
  ((f_X3_offer r1.1 r1.2.1 r1.2.2.1 r1.2.2.2.1 r1.2.2.2.2.1 r1.2.2.2.2.2 S cwidths cheights i1 i2 (1 : Int32)).bind fun r2 =>
  some (r2.1, r2.2.1, r2.2.2.1, r2.2.2.2.1, r2.2.2.2.2.1, r2.2.2.2.2.2))
def f_X3_chooseOn_L10 (codes : (Nat → Int32)) (counts : (Nat → Int32)) (S : Nat → Nat → Int32) (cwidths : (Nat → Int32)) (cheights : (Nat → Int32)) (i1 : Int32) (i2 : Int32) (k43_7 : Int32 → Int32 → Int32 → Int32 → Int32 → Int32 → Option (Int32 × Int32 × Int32 × Int32 × Int32 × Int32 × Int32 × Int32)) : Nat → Int32 → Int32 → Int32 → Int32 → Int32 → Int32 → Int32 → Option (Int32 × Int32 × Int32 × Int32 × Int32 × Int32 × Int32 × Int32)
  | 0, _, _, _, _, _, _, _ => none
  | n+1, x10, x11, x12, x13, x14, x15, x16 =>
  g_rd counts 4 i1 fun x17 =>
  if x17 ≤ x10 then
  (k43_7 x11 x12 x13 x14 x15 x16)
  else
  ((f_X7_codeOf codes i1 x10).bind fun r18 =>
  (f_X3_offerBoth x11 x12 x13 x14 x15 x16 S cwidths cheights r18 i2).bind fun r19 =>
  g_bd (x10 + 1) fun x20 =>
  f_X3_chooseOn_L10 codes counts S cwidths cheights i1 i2 k43_7 n x20 r19.1 r19.2.1 r19.2.2.1 r19.2.2.2.1 r19.2.2.2.2.1 r19.2.2.2.2.2)
def f_X3_chooseOn (codes : (Nat → Int32)) (counts : (Nat → Int32)) (chCol : Int32) (chRow : Int32) (chTurned : Int32) (chFirst : Int32) (chSecond : Int32) (S : (Nat → Nat → Int32)) (cwidths : (Nat → Int32)) (cheights : (Nat → Int32)) (i1 : Int32) (i2 : Int32) : Option (Int32 × Int32 × Int32 × Int32 × Int32 × Int32 × Int32 × Int32) :=
  g_bd (f_X1_startOn i1) fun r1 =>
  g_jn (fun (x2 : Int32) (x3 : Int32) (x4 : Int32) (x5 : Int32) (x6 : Int32) (x7 : Int32) =>
  g_z x2 <|
  some (x2, x2, r1.2, x3, x4, x5, x6, x7)) fun k43_7 =>
  f_X3_chooseOn_L10 codes counts S cwidths cheights i1 i2 k43_7 g_fuel (0 : Int32) r1.1 chCol chRow chTurned chFirst chSecond
def f_X5_fieldWidth (pageWidth : Int32) (padding : Int32) (border : Int32) : Int32 :=
  ((pageWidth - ((2 : Int32) * border)) + padding)
def f_X5_fieldHeight (pageHeight : Int32) (padding : Int32) (border : Int32) : Int32 :=
  ((pageHeight - ((2 : Int32) * border)) + padding)
def f_X5_fieldPositions (pageWidth : Int32) (pageHeight : Int32) (padding : Int32) (border : Int32) : Int32 :=
  ((g_max (f_X5_fieldWidth pageWidth padding border) (0 : Int32)) * (g_max (f_X5_fieldHeight pageHeight padding border) (0 : Int32)))
def f_X7_code (i1 : Int32) (i2 : Int32) (i3 : Int32) (i4 : Int32) : Int32 :=
  ((((g_shl i2 (18 : Int32)) ||| (g_shl i1 (12 : Int32))) ||| (g_shl i3 (6 : Int32))) ||| i4)
def f_X3_chooseOnNewPage (chCol : Int32) (chRow : Int32) (chTurned : Int32) (chFirst : Int32) (chSecond : Int32) (S : (Nat → Nat → Int32)) (cwidths : (Nat → Int32)) (cheights : (Nat → Int32)) (i1 : Int32) : Option (Int32 × Int32 × Int32 × Int32 × Int32 × Int32 × Int32 × Int32) :=
  g_bd (f_X1_startOn (S 6 0)) fun r1 =>
  g_jn (fun (x2 : Int32) (x3 : Int32) (x4 : Int32) (x5 : Int32) (x6 : Int32) (x7 : Int32) =>
  g_z x2 <|
  some (x2, x2, r1.2, x3, x4, x5, x6, x7)) fun j60_7 =>
  if (f_X5_fieldPositions (S 5 0) (S 5 1) (S 5 3) (S 5 4)) ≤ 0 then
  (j60_7 r1.1 chCol chRow chTurned chFirst chSecond)
  else
  ((f_X3_offerBoth r1.1 chCol chRow chTurned chFirst chSecond S cwidths cheights (f_X7_code (0 : Int32) (0 : Int32) (f_X5_fieldWidth (S 5 0) (S 5 3) (S 5 4)) (f_X5_fieldHeight (S 5 1) (S 5 3) (S 5 4))) i1).bind fun r10 =>
  j60_7 r10.1 r10.2.1 r10.2.2.1 r10.2.2.2.1 r10.2.2.2.2.1 r10.2.2.2.2.2)
def f_X3_choose_L2 (codes : (Nat → Int32)) (counts : (Nat → Int32)) (S : Nat → Nat → Int32) (cwidths : (Nat → Int32)) (cheights : (Nat → Int32)) (i1 : Int32) (k42_7 : Int32 → Int32 → Int32 → Int32 → Int32 → Int32 → Int32 → Option (Int32 × Int32 × Int32 × Int32 × Int32 × Int32 × Int32 × Int32)) : Nat → Int32 → Int32 → Int32 → Int32 → Int32 → Int32 → Int32 → Int32 → Option (Int32 × Int32 × Int32 × Int32 × Int32 × Int32 × Int32 × Int32)
  | 0, _, _, _, _, _, _, _, _ => none
  | n+1, x10, x11, x12, x13, x14, x15, x16, x17 =>
  if (S 6 0) ≤ x10 then
  (k42_7 x11 x12 x13 x14 x15 x16 x17)
  else
  ((f_X3_isOpenTo S x10 i1).bind fun r18 =>
  g_jn (fun (x19 : Int32) (x20 : Int32) (x21 : Int32) (x22 : Int32) (x23 : Int32) (x24 : Int32) (x25 : Int32) =>
  g_bd (x10 + 1) fun x27 =>
  f_X3_choose_L2 codes counts S cwidths cheights i1 k42_7 n x27 x19 x20 x21 x22 x23 x24 x25) fun j36_25 =>
  if r18 = 0 then
  (j36_25 x11 x12 x13 x14 x15 x16 x17)
  else
  ((f_X3_chooseOn codes counts x13 x14 x15 x16 x17 S cwidths cheights x10 i1).bind fun r28 =>
  if r28.1 = 0 then
  (j36_25 r28.2.1 r28.2.2.1 r28.2.2.2.1 r28.2.2.2.2.1 r28.2.2.2.2.2.1 r28.2.2.2.2.2.2.1 r28.2.2.2.2.2.2.2)
  else
  (some ((1 : Int32), r28.2.1, r28.2.2.1, r28.2.2.2.1, r28.2.2.2.2.1, r28.2.2.2.2.2.1, r28.2.2.2.2.2.2.1, r28.2.2.2.2.2.2.2))))
def f_X3_choose (codes : (Nat → Int32)) (counts : (Nat → Int32)) (chFound : Int32) (chPage : Int32) (chCol : Int32) (chRow : Int32) (chTurned : Int32) (chFirst : Int32) (chSecond : Int32) (S : (Nat → Nat → Int32)) (cwidths : (Nat → Int32)) (cheights : (Nat → Int32)) (i1 : Int32) : Option (Int32 × Int32 × Int32 × Int32 × Int32 × Int32 × Int32 × Int32) :=
  g_jn (fun (x1 : Int32) (x2 : Int32) (x3 : Int32) (x4 : Int32) (x5 : Int32) (x6 : Int32) (x7 : Int32) =>
  if (S 5 2) ≤ (S 6 0) then
  (some ((0 : Int32), x1, x2, x3, x4, x5, x6, x7))
  else
  ((f_X3_chooseOnNewPage x3 x4 x5 x6 x7 S cwidths cheights i1).bind fun r9 =>
  if r9.1 = 0 then
  (some ((0 : Int32), r9.2.1, r9.2.2.1, r9.2.2.2.1, r9.2.2.2.2.1, r9.2.2.2.2.2.1, r9.2.2.2.2.2.2.1, r9.2.2.2.2.2.2.2))
  else
  (some ((1 : Int32), r9.2.1, r9.2.2.1, r9.2.2.2.1, r9.2.2.2.2.1, r9.2.2.2.2.2.1, r9.2.2.2.2.2.2.1, r9.2.2.2.2.2.2.2)))) fun k42_7 =>
  f_X3_choose_L2 codes counts S cwidths cheights i1 k42_7 g_fuel (0 : Int32) chFound chPage chCol chRow chTurned chFirst chSecond
def f_J7_rangeCheck_23922 (i1 : Int32) (i2 : Int32) (i3 : Int32) : Option (Unit) :=
  if i2 ≤ i3 then
  (if 0 ≤ i2 then
  (if i3 ≤ i1 then
  (some ())
  else
  (none))
  else
  (none))
  else
  (none)
def f_J7_fill_bad5a_L10 (n_p0 : Nat) (i2 : Int32) (i3 : Int64) : Nat → Int32 → (Nat → Int64) → Option ((Nat → Int64))
  | 0, _, _ => none
  | n+1, x2, f3 =>
  if i2 ≤ x2 then
  (some f3)
  else
  (g_wrL f3 n_p0 x2 i3 fun f4 =>
  g_bd (x2 + 1) fun x5 =>
  f_J7_fill_bad5a_L10 n_p0 i2 i3 n x5 f4)
def f_J7_fill_bad5a (n_p0 : Nat) (arr : (Nat → Int64)) (i1 : Int32) (i2 : Int32) (i3 : Int64) : Option ((Nat → Int64)) :=
  (f_J7_rangeCheck_23922 (Int32.ofNat n_p0) i1 i2).bind fun r1 =>
  f_J7_fill_bad5a_L10 n_p0 i2 i3 g_fuel i1 arr
def f_X7_open (fr : (Nat → Int64)) (i1 : Int32) (i2 : Int32) : Option (Int32 × Int32 × (Nat → Int64)) :=
  g_bd (g_max i1 (0 : Int32)) fun x1 =>
  g_bd (g_min (g_max i2 (0 : Int32)) (35 : Int32)) fun x2 =>
  (f_J7_fill_bad5a 35 fr (0 : Int32) x2 ((g_lshl (1 : Int64) x1) - (1 : Int64))).bind fun r3 =>
  some (x1, x2, r3)
def f_X7_block_L16 (spH : Int32) (i2 : Int32) (i4 : Int32) (y1 : Int64) : Nat → Int32 → (Nat → Int64) → Option ((Nat → Int64))
  | 0, _, _ => none
  | n+1, x3, f4 =>
  if (i2 + i4) ≤ x3 then
  (some f4)
  else
  (if spH ≤ x3 then
  (some f4)
  else
  (g_rd f4 35 x3 fun y5 =>
  g_bd (y5 &&& (y1 ^^^ (-1 : Int64))) fun y6 =>
  g_wrL f4 35 x3 y6 fun f7 =>
  g_bd (x3 + 1) fun x8 =>
  f_X7_block_L16 spH i2 i4 y1 n x8 f7))
def f_X7_block (spH : Int32) (fr : (Nat → Int64)) (i1 : Int32) (i2 : Int32) (i3 : Int32) (i4 : Int32) : Option ((Nat → Int64)) :=
  g_bd (g_lshl ((g_lshl (1 : Int64) i3) - (1 : Int64)) i1) fun y1 =>
  g_bd (g_max i2 (0 : Int32)) fun x2 =>
  f_X7_block_L16 spH i2 i4 y1 g_fuel x2 fr
def f_J13_bitCount_95d88 (i1 : Int64) : Int32 :=
  g_bd (i1 - ((g_lushr i1 (1 : Int32)) &&& (6148914691236517205 : Int64))) fun y1 =>
  g_bd ((y1 &&& (3689348814741910323 : Int64)) + ((g_lushr y1 (2 : Int32)) &&& (3689348814741910323 : Int64))) fun y2 =>
  g_bd ((y2 + (g_lushr y2 (4 : Int32))) &&& (1085102592571150095 : Int64)) fun y3 =>
  g_bd (y3 + (g_lushr y3 (8 : Int32))) fun y4 =>
  g_bd (y4 + (g_lushr y4 (16 : Int32))) fun y5 =>
  g_bd (y5 + (g_lushr y5 (32 : Int32))) fun y6 =>
  ((y6).toInt32 &&& (127 : Int32))
def f_X7_addSorted_L23 (i2 : Int32) (x1 : Int32) (k69_4 : Int32 → (Nat → Int32) → Option ((Nat → Int32) × (Nat → Int32))) : Nat → Int32 → (Nat → Int32) → Option ((Nat → Int32) × (Nat → Int32))
  | 0, _, _ => none
  | n+1, x10, f11 =>
  if x10 ≤ 0 then
  (k69_4 x10 f11)
  else
  (g_rd f11 1396 ((x1 + x10) - (1 : Int32)) fun x12 =>
  if x12 ≤ i2 then
  (k69_4 x10 f11)
  else
  (g_rd f11 1396 ((x1 + x10) - (1 : Int32)) fun x13 =>
  g_wr f11 1396 (x1 + x10) x13 fun f14 =>
  g_bd (x10 + (-1)) fun x15 =>
  f_X7_addSorted_L23 i2 x1 k69_4 n x15 f14))
def f_X7_addSorted (codes : (Nat → Int32)) (counts : (Nat → Int32)) (i1 : Int32) (i2 : Int32) : Option ((Nat → Int32) × (Nat → Int32)) :=
  g_bd (i1 * (349 : Int32)) fun x1 =>
  g_rd counts 4 i1 fun x2 =>
  if x2 < (349 : Int32) then
  (g_jn (fun (x3 : Int32) (f4 : Nat → Int32) =>
  g_wr f4 1396 (x1 + x3) i2 fun f6 =>
  g_rd counts 4 i1 fun x7 =>
  g_bd (x7 + (1 : Int32)) fun x8 =>
  g_wr counts 4 i1 x8 fun f9 =>
  some (f6, f9)) fun k69_4 =>
  f_X7_addSorted_L23 i2 x1 k69_4 g_fuel x2 codes)
  else
  (some (codes, counts))
def f_X7_collectRuns_L7 (i1 : Int32) (i2 : Int32) (i3 : Int32) (i5 : Int64) (i6 : Int64) : Nat → Int64 → Int32 → (Nat → Int32) → (Nat → Int32) → Option ((Nat → Int32) × (Nat → Int32))
  | 0, _, _, _, _ => none
  | n+1, y1, x2, f3, f4 =>
  if (35 : Int32) ≤ x2 then
  (some (f3, f4))
  else
  (if (lg_cmp y1 (0 : Int64)) = 0 then
  (some (f3, f4))
  else
  (g_bd (y1 &&& (-y1)) fun y5 =>
  g_bd (y1 &&& ((y1 + y5) ^^^ (-1 : Int64))) fun y6 =>
  g_jn (fun (f7 : Nat → Int32) (f8 : Nat → Int32) =>
  g_bd (y1 &&& (y6 ^^^ (-1 : Int64))) fun y10 =>
  g_bd (x2 + 1) fun x11 =>
  f_X7_collectRuns_L7 i1 i2 i3 i5 i6 n y10 x11 f7 f8) fun j85_8 =>
  if (lg_cmp (y6 &&& i5) (0 : Int64)) = 0 then
  (j85_8 f3 f4)
  else
  (if (lg_cmp (y6 &&& i6) (0 : Int64)) = 0 then
  (j85_8 f3 f4)
  else
  ((f_X7_addSorted f3 f4 i1 (f_X7_code (f_J13_bitCount_95d88 (y5 - (1 : Int64))) i2 (f_J13_bitCount_95d88 y6) i3)).bind fun r12 =>
  j85_8 r12.1 r12.2))))
def f_X7_collectRuns (codes : (Nat → Int32)) (counts : (Nat → Int32)) (i1 : Int32) (i2 : Int32) (i3 : Int32) (i4 : Int64) (i5 : Int64) (i6 : Int64) : Option ((Nat → Int32) × (Nat → Int32)) :=
  f_X7_collectRuns_L7 i1 i2 i3 i5 i6 g_fuel i4 (0 : Int32) codes counts
def f_X7_collect_L45 (spH : Int32) (fr : (Nat → Int64)) (i1 : Int32) (x2 : Int32) (y5 : Int64) (k145_9 : (Nat → Int32) → (Nat → Int32) → Option ((Nat → Int32) × (Nat → Int32))) : Nat → Int64 → Int32 → (Nat → Int32) → (Nat → Int32) → Option ((Nat → Int32) × (Nat → Int32))
  | 0, _, _, _, _ => none
  | n+1, y12, x13, f14, f15 =>
  if spH ≤ x13 then
  (k145_9 f14 f15)
  else
  (if (lg_cmp (y12 &&& (y5 ^^^ (-1 : Int64))) (0 : Int64)) = 0 then
  (k145_9 f14 f15)
  else
  (g_jn (fun (y16 : Int64) =>
  g_jn (fun (f18 : Nat → Int32) (f19 : Nat → Int32) =>
  g_bd (y12 &&& y16) fun y21 =>
  g_bd (x13 + 1) fun x22 =>
  f_X7_collect_L45 spH fr i1 x2 y5 k145_9 n y21 x22 f18 f19) fun j132_19 =>
  if (lg_cmp (y12 &&& (y16 ^^^ (-1 : Int64))) (0 : Int64)) = 0 then
  (j132_19 f14 f15)
  else
  ((f_X7_collectRuns f14 f15 i1 x2 ((x13 - x2) + (1 : Int32)) y12 (y5 ^^^ (-1 : Int64)) (y16 ^^^ (-1 : Int64))).bind fun r23 =>
  j132_19 r23.1 r23.2)) fun j91_16 =>
  if spH ≤ (x13 + (1 : Int32)) then
  (j91_16 (0 : Int64))
  else
  (g_rd fr 35 (x13 + (1 : Int32)) fun y24 =>
  j91_16 y24)))
def f_X7_collect_L9 (spH : Int32) (fr : (Nat → Int64)) (i1 : Int32) : Nat → Int32 → (Nat → Int32) → (Nat → Int32) → Option ((Nat → Int32) × (Nat → Int32))
  | 0, _, _, _ => none
  | n+1, x2, f3, f4 =>
  if spH ≤ x2 then
  (some (f3, f4))
  else
  (g_jn (fun (y5 : Int64) =>
  g_rd fr 35 x2 fun y7 =>
  g_jn (fun (f8 : Nat → Int32) (f9 : Nat → Int32) =>
  g_bd (x2 + 1) fun x11 =>
  f_X7_collect_L9 spH fr i1 n x11 f8 f9) fun k145_9 =>
  f_X7_collect_L45 spH fr i1 x2 y5 k145_9 g_fuel y7 x2 f3 f4) fun j33_5 =>
  if x2 = 0 then
  (j33_5 (0 : Int64))
  else
  (g_rd fr 35 (x2 - (1 : Int32)) fun y25 =>
  j33_5 y25))
def f_X7_collect (spH : Int32) (fr : (Nat → Int64)) (codes : (Nat → Int32)) (counts : (Nat → Int32)) (i1 : Int32) : Option ((Nat → Int32) × (Nat → Int32)) :=
  g_wr counts 4 i1 (0 : Int32) fun f1 =>
  f_X7_collect_L9 spH fr i1 g_fuel (0 : Int32) codes f1
def f_X3_survey_L37 (S : Nat → Nat → Int32) (cwidths : (Nat → Int32)) (cheights : (Nat → Int32)) (i1 : Int32) (r1 : Int32 × Int32 × (Nat → Int64)) (k108_2 : (Nat → Int64) → Option (Int32 × Int32 × (Nat → Int64) × (Nat → Int32) × (Nat → Int32))) : Nat → Int32 → (Nat → Int64) → Option (Int32 × Int32 × (Nat → Int64) × (Nat → Int32) × (Nat → Int32))
  | 0, _, _ => none
  | n+1, x5, f6 =>
  if (S 0 0) ≤ x5 then
  (k108_2 f6)
  else
  (g_rd (S 8) 24 x5 fun x7 =>
  g_jn (fun (f8 : Nat → Int64) =>
  g_bd (x5 + 1) fun x10 =>
  f_X3_survey_L37 S cwidths cheights i1 r1 k108_2 n x10 f8) fun j102_8 =>
  if x7 = i1 then
  (g_rd (S 11) 24 x5 fun x11 =>
  g_rd (S 9) 24 x5 fun x12 =>
  g_rd (S 10) 24 x5 fun x13 =>
  (f_X3_boxWidth S cwidths cheights x5 x11).bind fun r14 =>
  (f_X3_boxHeight S cwidths cheights x5 x11).bind fun r15 =>
  (f_X7_block r1.2.1 f6 x12 x13 r14 r15).bind fun r16 =>
  j102_8 r16)
  else
  (j102_8 f6))
def f_X3_survey (fr : (Nat → Int64)) (codes : (Nat → Int32)) (counts : (Nat → Int32)) (S : (Nat → Nat → Int32)) (cwidths : (Nat → Int32)) (cheights : (Nat → Int32)) (i1 : Int32) : Option (Int32 × Int32 × (Nat → Int64) × (Nat → Int32) × (Nat → Int32)) :=
  (f_X7_open fr (f_X5_fieldWidth (S 5 0) (S 5 3) (S 5 4)) (f_X5_fieldHeight (S 5 1) (S 5 3) (S 5 4))).bind fun r1 =>
  g_jn (fun (f2 : Nat → Int64) =>
  (f_X7_collect r1.2.1 f2 codes counts i1).bind fun r4 =>
  some (r1.1, r1.2.1, f2, r4.1, r4.2)) fun k108_2 =>
  f_X3_survey_L37 S cwidths cheights i1 r1 k108_2 g_fuel (0 : Int32) r1.2.2
def f_X3_putAsChosen (fr : (Nat → Int64)) (codes : (Nat → Int32)) (counts : (Nat → Int32)) (chPage : Int32) (chCol : Int32) (chRow : Int32) (chTurned : Int32) (S : (Nat → Nat → Int32)) (cwidths : (Nat → Int32)) (cheights : (Nat → Int32)) (i1 : Int32) : Option (Int32 × Int32 × (Nat → Int64) × (Nat → Int32) × (Nat → Int32) × (Nat → Nat → Int32)) :=
  (f_X4_isEmptyPage (S 8) chPage).bind fun r1 =>
  g_jn (fun (S2 : Nat → Nat → Int32) =>
  g_bd (g_max (S 6 0) (chPage + (1 : Int32))) fun x4 =>
  g_wr (S 8) 24 i1 chPage fun f5 =>
  g_wr (S 9) 24 i1 chCol fun f6 =>
  g_wr (S 10) 24 i1 chRow fun f7 =>
  g_wrZ (S 11) 24 i1 chTurned fun f8 =>
  (f_X3_survey fr codes counts (updC (updC (updC (updC (updC (updC S 6 (upd (S 6) 0 x4)) 7 (S2 7)) 8 f5) 9 f6) 10 f7) 11 f8) cwidths cheights chPage).bind fun r9 =>
  some (r9.1, r9.2.1, r9.2.2.1, r9.2.2.2.1, r9.2.2.2.2, (updC (updC (updC (updC (updC (updC S 6 (upd (S 6) 0 x4)) 7 (S2 7)) 8 f5) 9 f6) 10 f7) 11 f8))) fun j42_2 =>
  if r1 = 0 then
  (j42_2 S)
  else
  (g_rd (S 3) 24 i1 fun x10 =>
  g_wr (S 7) 4 chPage x10 fun f11 =>
  j42_2 (updC S 7 f11))
def f_X3_placeAll_L19 (S : Nat → Nat → Int32) (cwidths : (Nat → Int32)) (cheights : (Nat → Int32)) (r2 : Int32 × (Nat → Int32)) : Nat → Int32 → Int32 → Int32 → Int32 → (Nat → Int64) → (Nat → Int32) → (Nat → Int32) → Int32 → Int32 → Int32 → Int32 → Int32 → Int32 → Int32 → (Nat → Nat → Int32) → Option (Int32 × Int32 × Int32 × (Nat → Int64) × (Nat → Int32) × (Nat → Int32) × Int32 × Int32 × Int32 × Int32 × Int32 × Int32 × Int32 × (Nat → Int32) × (Nat → Nat → Int32))
  | 0, _, _, _, _, _, _, _, _, _, _, _, _, _, _, _ => none
  | n+1, x3, x4, x5, x6, f7, f8, f9, x10, x11, x12, x13, x14, x15, x16, S17 =>
  if r2.1 ≤ x4 then
  (some (x3, x5, x6, f7, f8, f9, x10, x11, x12, x13, x14, x15, x16, r2.2, (updC (updC (updC (updC (updC (updC S 6 (upd (S 6) 0 (S17 6 0))) 7 (S17 7)) 8 (S17 8)) 9 (S17 9)) 10 (S17 10)) 11 (S17 11))))
  else
  (g_rd r2.2 24 x4 fun x18 =>
  (f_X3_choose f8 f9 x10 x11 x12 x13 x14 x15 x16 (updC (updC (updC (updC (updC (updC S 6 (upd (S 6) 0 (S17 6 0))) 7 (S17 7)) 8 (S17 8)) 9 (S17 9)) 10 (S17 10)) 11 (S17 11)) cwidths cheights x18).bind fun r19 =>
  g_jn (fun (x20 : Int32) (x21 : Int32) (x22 : Int32) (f23 : Nat → Int64) (f24 : Nat → Int32) (f25 : Nat → Int32) (S26 : Nat → Nat → Int32) =>
  g_bd (x4 + 1) fun x28 =>
  f_X3_placeAll_L19 S cwidths cheights r2 n x20 x28 x21 x22 f23 f24 f25 r19.2.1 r19.2.2.1 r19.2.2.2.1 r19.2.2.2.2.1 r19.2.2.2.2.2.1 r19.2.2.2.2.2.2.1 r19.2.2.2.2.2.2.2 (updC (updC (updC (updC (updC (updC S 6 (upd (S 6) 0 (S26 6 0))) 7 (S26 7)) 8 (S26 8)) 9 (S26 9)) 10 (S26 10)) 11 (S26 11))) fun j53_26 =>
  if r19.1 = 0 then
  (g_bd (x3 + 1) fun x29 =>
  j53_26 x29 x5 x6 f7 f8 f9 (updC (updC (updC (updC (updC (updC S 6 (upd (S 6) 0 (S17 6 0))) 7 (S17 7)) 8 (S17 8)) 9 (S17 9)) 10 (S17 10)) 11 (S17 11)))
  else
  (g_rd r2.2 24 x4 fun x30 =>
  (f_X3_putAsChosen f7 f8 f9 r19.2.2.1 r19.2.2.2.1 r19.2.2.2.2.1 r19.2.2.2.2.2.1 (updC (updC (updC (updC (updC (updC S 6 (upd (S 6) 0 (S17 6 0))) 7 (S17 7)) 8 (S17 8)) 9 (S17 9)) 10 (S17 10)) 11 (S17 11)) cwidths cheights x30).bind fun r31 =>
  j53_26 x3 r31.1 r31.2.1 r31.2.2.1 r31.2.2.2.1 r31.2.2.2.2.1 (updC (updC (updC (updC (updC (updC S 6 (upd (S 6) 0 (r31.2.2.2.2.2 6 0))) 7 (r31.2.2.2.2.2 7)) 8 (r31.2.2.2.2.2 8)) 9 (r31.2.2.2.2.2 9)) 10 (r31.2.2.2.2.2 10)) 11 (r31.2.2.2.2.2 11))))
def f_X3_placeAll (spW : Int32) (spH : Int32) (fr : (Nat → Int64)) (codes : (Nat → Int32)) (counts : (Nat → Int32)) (chFound : Int32) (chPage : Int32) (chCol : Int32) (chRow : Int32) (chTurned : Int32) (chFirst : Int32) (chSecond : Int32) (line : (Nat → Int32)) (S : (Nat → Nat → Int32)) (cwidths : (Nat → Int32)) (cheights : (Nat → Int32)) (originals : (Nat → Int32)) : Option (Int32 × Int32 × Int32 × (Nat → Int64) × (Nat → Int32) × (Nat → Int32) × Int32 × Int32 × Int32 × Int32 × Int32 × Int32 × Int32 × (Nat → Int32) × (Nat → Nat → Int32)) :=
  (f_X4_removeAll (S 8)).bind fun r1 =>
  (f_X3_lineUp line (updC (updC S 6 (upd (S 6) 0 r1.1)) 8 r1.2) cwidths cheights originals).bind fun r2 =>
  f_X3_placeAll_L19 S cwidths cheights r2 g_fuel (0 : Int32) (0 : Int32) spW spH fr codes counts chFound chPage chCol chRow chTurned chFirst chSecond (updC (updC S 6 (upd (S 6) 0 r1.1)) 8 r1.2)
def f_X3_imageColumn (S : (Nat → Nat → Int32)) (i1 : Int32) : Option (Int32) :=
  g_rd (S 9) 24 i1 fun x1 =>
  some ((x1 + (S 5 4)) + (S 5 5))
def f_X3_imageRow (S : (Nat → Nat → Int32)) (i1 : Int32) : Option (Int32) :=
  g_rd (S 10) 24 i1 fun x1 =>
  some ((x1 + (S 5 4)) + (S 5 5))
def f_X3_imageWidth (S : (Nat → Nat → Int32)) (cwidths : (Nat → Int32)) (cheights : (Nat → Int32)) (i1 : Int32) : Option (Int32) :=
  g_rd (S 11) 24 i1 fun x1 =>
  if x1 = 0 then
  (g_rd cwidths 24 i1 fun x2 =>
  some x2)
  else
  (g_rd cheights 24 i1 fun x3 =>
  some x3)
def f_X3_imageHeight (S : (Nat → Nat → Int32)) (cwidths : (Nat → Int32)) (cheights : (Nat → Int32)) (i1 : Int32) : Option (Int32) :=
  g_rd (S 11) 24 i1 fun x1 =>
  if x1 = 0 then
  (g_rd cheights 24 i1 fun x2 =>
  some x2)
  else
  (g_rd cwidths 24 i1 fun x3 =>
  some x3)
def f_X3_ownerOf_L15 (S : Nat → Nat → Int32) (cwidths : (Nat → Int32)) (cheights : (Nat → Int32)) (i1 : Int32) (i2 : Int32) (i3 : Int32) : Nat → Int32 → Option (Int32)
  | 0, _ => none
  | n+1, x1 =>
  if (S 0 0) ≤ x1 then
  (some (-4 : Int32))
  else
  (g_rd (S 8) 24 x1 fun x2 =>
  g_jn (g_bd (x1 + 1) fun x4 =>
  f_X3_ownerOf_L15 S cwidths cheights i1 i2 i3 n x4) fun j114_2 =>
  if x2 = i1 then
  ((f_X3_imageColumn S x1).bind fun r5 =>
  g_bd (i2 - r5) fun x6 =>
  (f_X3_imageRow S x1).bind fun r7 =>
  g_bd (i3 - r7) fun x8 =>
  if x6 < (-(S 5 5)) then
  (j114_2)
  else
  ((f_X3_imageWidth S cwidths cheights x1).bind fun r9 =>
  if (r9 + (S 5 5)) ≤ x6 then
  (j114_2)
  else
  (if x8 < (-(S 5 5)) then
  (j114_2)
  else
  ((f_X3_imageHeight S cwidths cheights x1).bind fun r10 =>
  if (r10 + (S 5 5)) ≤ x8 then
  (j114_2)
  else
  (some x1)))))
  else
  (j114_2))
def f_X3_ownerOf (S : (Nat → Nat → Int32)) (cwidths : (Nat → Int32)) (cheights : (Nat → Int32)) (i1 : Int32) (i2 : Int32) (i3 : Int32) : Option (Int32) :=
  f_X3_ownerOf_L15 S cwidths cheights i1 i2 i3 g_fuel (0 : Int32)
def f_X3_colorOn (S : (Nat → Nat → Int32)) (lefts : (Nat → Int32)) (tops : (Nat → Int32)) (cwidths : (Nat → Int32)) (cheights : (Nat → Int32)) (i1 : Int32) (i2 : Int32) (i3 : Int32) : Option (Int32) :=
  (f_X3_ownerOf S cwidths cheights i1 i2 i3).bind fun r1 =>
  if r1 = (-4 : Int32) then
  (some (0 : Int32))
  else
  ((f_X3_imageColumn S r1).bind fun r2 =>
  (f_X3_imageWidth S cwidths cheights r1).bind fun r3 =>
  g_bd (g_max (0 : Int32) (g_min (i2 - r2) (r3 - (1 : Int32)))) fun x4 =>
  (f_X3_imageRow S r1).bind fun r5 =>
  (f_X3_imageHeight S cwidths cheights r1).bind fun r6 =>
  g_bd (g_max (0 : Int32) (g_min (i3 - r5) (r6 - (1 : Int32)))) fun x7 =>
  g_rd (S 11) 24 r1 fun x8 =>
  g_bd (if x8 = 0 then (0 : Int32) else (1 : Int32)) fun x9 =>
  (f_X0_colorIn lefts tops cwidths cheights (S 4) r1 x9 x4 x7).bind fun r10 =>
  some r10)
def f_X3_usedColumns_L13 (S : Nat → Nat → Int32) (cwidths : (Nat → Int32)) (cheights : (Nat → Int32)) (i1 : Int32) (k76_1 : Int32 → Option (Int32)) : Nat → Int32 → Int32 → Option (Int32)
  | 0, _, _ => none
  | n+1, x3, x4 =>
  if (S 0 0) ≤ x4 then
  (k76_1 x3)
  else
  (g_rd (S 8) 24 x4 fun x5 =>
  g_jn (fun (x6 : Int32) =>
  g_bd (x4 + 1) fun x8 =>
  f_X3_usedColumns_L13 S cwidths cheights i1 k76_1 n x6 x8) fun j70_6 =>
  if x5 = i1 then
  ((f_X3_imageColumn S x4).bind fun r9 =>
  (f_X3_imageWidth S cwidths cheights x4).bind fun r10 =>
  g_bd (g_max x3 ((r9 + r10) + (S 5 5))) fun x11 =>
  j70_6 x11)
  else
  (j70_6 x3))
def f_X3_usedColumns (S : (Nat → Nat → Int32)) (cwidths : (Nat → Int32)) (cheights : (Nat → Int32)) (i1 : Int32) : Option (Int32) :=
  g_jn (fun (x1 : Int32) =>
  some (x1 + (S 5 4))) fun k76_1 =>
  f_X3_usedColumns_L13 S cwidths cheights i1 k76_1 g_fuel (S 5 4) (0 : Int32)
def f_X3_usedRows_L13 (S : Nat → Nat → Int32) (cwidths : (Nat → Int32)) (cheights : (Nat → Int32)) (i1 : Int32) (k76_1 : Int32 → Option (Int32)) : Nat → Int32 → Int32 → Option (Int32)
  | 0, _, _ => none
  | n+1, x3, x4 =>
  if (S 0 0) ≤ x4 then
  (k76_1 x3)
  else
  (g_rd (S 8) 24 x4 fun x5 =>
  g_jn (fun (x6 : Int32) =>
  g_bd (x4 + 1) fun x8 =>
  f_X3_usedRows_L13 S cwidths cheights i1 k76_1 n x6 x8) fun j70_6 =>
  if x5 = i1 then
  ((f_X3_imageRow S x4).bind fun r9 =>
  (f_X3_imageHeight S cwidths cheights x4).bind fun r10 =>
  g_bd (g_max x3 ((r9 + r10) + (S 5 5))) fun x11 =>
  j70_6 x11)
  else
  (j70_6 x3))
def f_X3_usedRows (S : (Nat → Nat → Int32)) (cwidths : (Nat → Int32)) (cheights : (Nat → Int32)) (i1 : Int32) : Option (Int32) :=
  g_jn (fun (x1 : Int32) =>
  some (x1 + (S 5 4))) fun k76_1 =>
  f_X3_usedRows_L13 S cwidths cheights i1 k76_1 g_fuel (S 5 4) (0 : Int32)
def f_X3_imagePixels_L4 (S : Nat → Nat → Int32) (cwidths : (Nat → Int32)) (cheights : (Nat → Int32)) (i1 : Int32) : Nat → Int32 → Int32 → Option (Int32)
  | 0, _, _ => none
  | n+1, x1, x2 =>
  if (S 0 0) ≤ x2 then
  (some x1)
  else
  (g_rd (S 8) 24 x2 fun x3 =>
  g_jn (fun (x4 : Int32) =>
  g_bd (x2 + 1) fun x6 =>
  f_X3_imagePixels_L4 S cwidths cheights i1 n x4 x6) fun j56_4 =>
  if x3 = i1 then
  (g_rd cwidths 24 x2 fun x7 =>
  g_rd cheights 24 x2 fun x8 =>
  g_bd (x1 + (x7 * x8)) fun x9 =>
  j56_4 x9)
  else
  (j56_4 x1))
def f_X3_imagePixels (S : (Nat → Nat → Int32)) (cwidths : (Nat → Int32)) (cheights : (Nat → Int32)) (i1 : Int32) : Option (Int32) :=
  f_X3_imagePixels_L4 S cwidths cheights i1 g_fuel (0 : Int32) (0 : Int32)
def f_X3_boxPositions_L4 (S : Nat → Nat → Int32) (cwidths : (Nat → Int32)) (cheights : (Nat → Int32)) (originals : (Nat → Int32)) : Nat → Int32 → Int32 → Option (Int32)
  | 0, _, _ => none
  | n+1, x1, x2 =>
  if (S 0 0) ≤ x2 then
  (some x1)
  else
  ((f_X0_isOriginal cwidths originals x2).bind fun r3 =>
  g_jn (fun (x4 : Int32) =>
  g_bd (x2 + 1) fun x6 =>
  f_X3_boxPositions_L4 S cwidths cheights originals n x4 x6) fun j45_4 =>
  if r3 = 0 then
  (j45_4 x1)
  else
  ((f_X3_boxWidth S cwidths cheights x2 (0 : Int32)).bind fun r7 =>
  (f_X3_boxHeight S cwidths cheights x2 (0 : Int32)).bind fun r8 =>
  g_bd (x1 + (r7 * r8)) fun x9 =>
  j45_4 x9))
def f_X3_boxPositions (S : (Nat → Nat → Int32)) (cwidths : (Nat → Int32)) (cheights : (Nat → Int32)) (originals : (Nat → Int32)) : Option (Int32) :=
  f_X3_boxPositions_L4 S cwidths cheights originals g_fuel (0 : Int32) (0 : Int32)
def f_X6_has (count : Int32) (i1 : Int32) : Int32 :=
  if i1 < 0 then
  ((0 : Int32))
  else
  (if count ≤ i1 then
  ((0 : Int32))
  else
  ((1 : Int32)))
def f_X6_hasPixel (count : Int32) (widths : (Nat → Int32)) (heights : (Nat → Int32)) (i1 : Int32) (i2 : Int32) (i3 : Int32) : Option (Int32) :=
  if (f_X6_has count i1) = 0 then
  (some (0 : Int32))
  else
  (if i2 < 0 then
  (some (0 : Int32))
  else
  (g_rd widths 24 i1 fun x1 =>
  if x1 ≤ i2 then
  (some (0 : Int32))
  else
  (if i3 < 0 then
  (some (0 : Int32))
  else
  (g_rd heights 24 i1 fun x2 =>
  if x2 ≤ i3 then
  (some (0 : Int32))
  else
  (some (1 : Int32))))))
def f_X6_setColor (count : Int32) (widths : (Nat → Int32)) (heights : (Nat → Int32)) (rows : (Nat → Int32)) (i1 : Int32) (i2 : Int32) (i3 : Int32) (i4 : Int32) : Option ((Nat → Int32)) :=
  (f_X6_hasPixel count widths heights i1 i2 i3).bind fun r1 =>
  if r1 = 0 then
  (some rows)
  else
  (g_bd ((i1 * (8 : Int32)) + i3) fun x2 =>
  g_rd rows 192 x2 fun x3 =>
  g_bd ((x3 &&& ((g_shl (15 : Int32) ((4 : Int32) * i2)) ^^^ (-1 : Int32))) ||| (g_shl i4 ((4 : Int32) * i2))) fun x4 =>
  g_wr rows 192 x2 x4 fun f5 =>
  some f5)
def f_J7_fill_fda19_L10 (n_p0 : Nat) (i2 : Int32) (i3 : Int32) : Nat → Int32 → (Nat → Int32) → Option ((Nat → Int32))
  | 0, _, _ => none
  | n+1, x2, f3 =>
  if i2 ≤ x2 then
  (some f3)
  else
  (g_wr f3 n_p0 x2 i3 fun f4 =>
  g_bd (x2 + 1) fun x5 =>
  f_J7_fill_fda19_L10 n_p0 i2 i3 n x5 f4)
def f_J7_fill_fda19 (n_p0 : Nat) (arr : (Nat → Int32)) (i1 : Int32) (i2 : Int32) (i3 : Int32) : Option ((Nat → Int32)) :=
  (f_J7_rangeCheck_23922 (Int32.ofNat n_p0) i1 i2).bind fun r1 =>
  f_J7_fill_fda19_L10 n_p0 i2 i3 g_fuel i1 arr
def f_X6_add (count : Int32) (widths : (Nat → Int32)) (heights : (Nat → Int32)) (groups : (Nat → Int32)) (rows : (Nat → Int32)) (i1 : Int32) (i2 : Int32) : Option (Int32 × Int32 × (Nat → Int32) × (Nat → Int32) × (Nat → Int32) × (Nat → Int32)) :=
  if count < (24 : Int32) then
  (g_bd (count + (1 : Int32)) fun x1 =>
  g_wr widths 24 count i1 fun f2 =>
  g_wr heights 24 count i2 fun f3 =>
  g_wr groups 24 count (0 : Int32) fun f4 =>
  g_bd (count * (8 : Int32)) fun x5 =>
  (f_J7_fill_fda19 192 rows x5 (x5 + (8 : Int32)) (0 : Int32)).bind fun r6 =>
  some (count, x1, f2, f3, f4, r6))
  else
  (some ((-4 : Int32), count, widths, heights, groups, rows))
def f_X6_remove (count : Int32) (widths : (Nat → Int32)) (heights : (Nat → Int32)) (groups : (Nat → Int32)) (rows : (Nat → Int32)) (i1 : Int32) : Option (Int32 × (Nat → Int32) × (Nat → Int32) × (Nat → Int32) × (Nat → Int32)) :=
  if (f_X6_has count i1) = 0 then
  (some (count, widths, heights, groups, rows))
  else
  (g_bd ((count - i1) - (1 : Int32)) fun x1 =>
  g_cpy widths 24 (i1 + (1 : Int32)) widths 24 i1 x1 fun f2 =>
  g_cpy heights 24 (i1 + (1 : Int32)) heights 24 i1 x1 fun f3 =>
  g_cpy groups 24 (i1 + (1 : Int32)) groups 24 i1 x1 fun f4 =>
  g_bd (i1 * (8 : Int32)) fun x5 =>
  g_cpy rows 192 (x5 + (8 : Int32)) rows 192 x5 (x1 * (8 : Int32)) fun f6 =>
  g_bd (count - (1 : Int32)) fun x7 =>
  some (x7, f2, f3, f4, f6))
def f_X9_add (length : Int32) (tcodes : (Nat → Int32)) (i1 : Int32) : Option (Int32 × Int32 × (Nat → Int32)) :=
  if length < (160 : Int32) then
  (g_wr tcodes 160 length i1 fun f1 =>
  g_bd (length + (1 : Int32)) fun x2 =>
  some ((1 : Int32), x2, f1))
  else
  (some ((0 : Int32), length, tcodes))
def f_X9_isDigit (i1 : Int32) : Int32 :=
  if i1 < (48 : Int32) then
  ((0 : Int32))
  else
  (if (57 : Int32) < i1 then
  ((0 : Int32))
  else
  ((1 : Int32)))
def f_X9_findFault_L10 (length : Int32) (tcodes : (Nat → Int32)) (k126_2 : Int32 → Int32 → Option (Int32)) : Nat → Int32 → Int32 → Int32 → Int32 → Option (Int32)
  | 0, _, _, _, _ => none
  | n+1, x5, x6, x7, x8 =>
  if length ≤ x8 then
  (k126_2 x5 x6)
  else
  (g_rd tcodes 160 x8 fun x9 =>
  g_jn (fun (x10 : Int32) =>
  g_jn (fun (x12 : Int32) (x13 : Int32) (x14 : Int32) =>
  g_bd (x8 + 1) fun x16 =>
  f_X9_findFault_L10 length tcodes k126_2 n x12 x13 x14 x16) fun j120_14 =>
  g_jn (g_jn (if x9 = (59 : Int32) then
  (if x10 = 0 then
  (some x8)
  else
  (j120_14 (0 : Int32) (0 : Int32) (8 : Int32)))
  else
  (some x8)) fun j95_17 =>
  if x9 = (47 : Int32) then
  (if x10 = 0 then
  (j95_17)
  else
  (if (7 : Int32) ≤ x5 then
  (j95_17)
  else
  (g_bd (x5 + 1) fun x19 =>
  j120_14 x19 (0 : Int32) x6)))
  else
  (j95_17)) fun j67_16 =>
  if (f_X9_isDigit x9) = 0 then
  (j67_16)
  else
  (if x7 ≤ x6 then
  (j67_16)
  else
  (g_bd (x6 + 1) fun x20 =>
  j120_14 x5 x20 x7))) fun j46_10 =>
  g_jn (j46_10 (0 : Int32)) fun j45_20 =>
  if x6 ≤ 0 then
  (j45_20)
  else
  (g_jn (j46_10 (1 : Int32)) fun j41_21 =>
  if x5 = 0 then
  (j41_21)
  else
  (if x6 = x7 then
  (j41_21)
  else
  (j45_20))))
def f_X9_findFault (length : Int32) (tcodes : (Nat → Int32)) : Option (Int32) :=
  g_jn (fun (x1 : Int32) (x2 : Int32) =>
  g_jn (some length) fun j139_3 =>
  if x1 = 0 then
  (if x2 = 0 then
  (some (-4 : Int32))
  else
  (j139_3))
  else
  (j139_3)) fun k126_2 =>
  f_X9_findFault_L10 length tcodes k126_2 g_fuel (0 : Int32) (0 : Int32) (8 : Int32) (0 : Int32)
def f_X9_countImages_L4 (length : Int32) (tcodes : (Nat → Int32)) : Nat → Int32 → Int32 → Option (Int32)
  | 0, _, _ => none
  | n+1, x1, x2 =>
  if length ≤ x2 then
  (some x1)
  else
  (g_rd tcodes 160 x2 fun x3 =>
  g_bd (if x3 = (59 : Int32) then (x1 + 1) else x1) fun x4 =>
  g_bd (x2 + 1) fun x5 =>
  f_X9_countImages_L4 length tcodes n x4 x5)
def f_X9_countImages (length : Int32) (tcodes : (Nat → Int32)) : Option (Int32) :=
  f_X9_countImages_L4 length tcodes g_fuel (0 : Int32) (0 : Int32)
def f_X9_addImage_L57 (tcodes : (Nat → Int32)) (i1 : Int32) (i2 : Int32) (x1 : Int32) (r6 : Int32 × Int32 × (Nat → Int32) × (Nat → Int32) × (Nat → Int32) × (Nat → Int32)) : Nat → Int32 → (Nat → Int32) → Option (Int32 × (Nat → Int32) × (Nat → Int32) × (Nat → Int32) × (Nat → Int32))
  | 0, _, _ => none
  | n+1, x7, f8 =>
  if i2 ≤ x7 then
  (some (r6.2.1, r6.2.2.1, r6.2.2.2.1, r6.2.2.2.2.1, f8))
  else
  (g_rd tcodes 160 x7 fun x9 =>
  g_jn (fun (f10 : Nat → Int32) =>
  g_bd (x7 + 1) fun x12 =>
  f_X9_addImage_L57 tcodes i1 i2 x1 r6 n x12 f10) fun j112_10 =>
  if (f_X9_isDigit x9) = 0 then
  (j112_10 f8)
  else
  (g_bd (x7 - i1) fun x13 =>
  g_bd (x1 + (1 : Int32)) fun x14 =>
  g_nz x14 <|
  g_bd (x1 + (1 : Int32)) fun x16 =>
  g_nz x16 <|
  g_rd tcodes 160 x7 fun x18 =>
  (f_X6_setColor r6.2.1 r6.2.2.1 r6.2.2.2.1 f8 r6.1 (g_rem x13 x14) (x13 / x16) (x18 - (48 : Int32))).bind fun r19 =>
  j112_10 r19))
def f_X9_addImage_L3 (tcodes : (Nat → Int32)) (i1 : Int32) (i2 : Int32) (k32_1 : Int32 → Option (Int32 × (Nat → Int32) × (Nat → Int32) × (Nat → Int32) × (Nat → Int32))) : Nat → Int32 → Option (Int32 × (Nat → Int32) × (Nat → Int32) × (Nat → Int32) × (Nat → Int32))
  | 0, _ => none
  | n+1, x20 =>
  if i2 ≤ (i1 + x20) then
  (k32_1 x20)
  else
  (g_rd tcodes 160 (i1 + x20) fun x21 =>
  if (f_X9_isDigit x21) = 0 then
  (k32_1 x20)
  else
  (g_bd (x20 + 1) fun x22 =>
  f_X9_addImage_L3 tcodes i1 i2 k32_1 n x22))
def f_X9_addImage (tcodes : (Nat → Int32)) (count : Int32) (widths : (Nat → Int32)) (heights : (Nat → Int32)) (groups : (Nat → Int32)) (rows : (Nat → Int32)) (i1 : Int32) (i2 : Int32) : Option (Int32 × (Nat → Int32) × (Nat → Int32) × (Nat → Int32) × (Nat → Int32)) :=
  g_jn (fun (x1 : Int32) =>
  g_bd (x1 + (1 : Int32)) fun x3 =>
  g_nz x3 <|
  g_bd (((i2 - i1) + (1 : Int32)) / x3) fun x5 =>
  (f_X6_add count widths heights groups rows x1 x5).bind fun r6 =>
  f_X9_addImage_L57 tcodes i1 i2 x1 r6 g_fuel i1 r6.2.2.2.2.2) fun k32_1 =>
  f_X9_addImage_L3 tcodes i1 i2 k32_1 g_fuel (0 : Int32)
def f_X9_addImagesTo_L4 (length : Int32) (tcodes : (Nat → Int32)) : Nat → Int32 → Int32 → Int32 → (Nat → Int32) → (Nat → Int32) → (Nat → Int32) → (Nat → Int32) → Option (Int32 × (Nat → Int32) × (Nat → Int32) × (Nat → Int32) × (Nat → Int32))
  | 0, _, _, _, _, _, _, _ => none
  | n+1, x1, x2, x3, f4, f5, f6, f7 =>
  if length ≤ x2 then
  (some (x3, f4, f5, f6, f7))
  else
  (g_rd tcodes 160 x2 fun x8 =>
  g_jn (fun (x9 : Int32) (x10 : Int32) (f11 : Nat → Int32) (f12 : Nat → Int32) (f13 : Nat → Int32) (f14 : Nat → Int32) =>
  g_bd (x2 + 1) fun x16 =>
  f_X9_addImagesTo_L4 length tcodes n x9 x16 x10 f11 f12 f13 f14) fun j34_14 =>
  if x8 = (59 : Int32) then
  ((f_X9_addImage tcodes x3 f4 f5 f6 f7 x1 x2).bind fun r17 =>
  g_bd (x2 + (1 : Int32)) fun x18 =>
  j34_14 x18 r17.1 r17.2.1 r17.2.2.1 r17.2.2.2.1 r17.2.2.2.2)
  else
  (j34_14 x1 x3 f4 f5 f6 f7))
def f_X9_addImagesTo (length : Int32) (tcodes : (Nat → Int32)) (count : Int32) (widths : (Nat → Int32)) (heights : (Nat → Int32)) (groups : (Nat → Int32)) (rows : (Nat → Int32)) : Option (Int32 × (Nat → Int32) × (Nat → Int32) × (Nat → Int32) × (Nat → Int32)) :=
  f_X9_addImagesTo_L4 length tcodes g_fuel (0 : Int32) (0 : Int32) count widths heights groups rows
def f_X10_isWithin (i1 : Int32) (i2 : Int32) (i3 : Int32) : Int32 :=
  if i1 < i2 then
  ((0 : Int32))
  else
  (if i3 < i1 then
  ((0 : Int32))
  else
  ((1 : Int32)))
def f_X10_append (length : Int32) (tcodes : (Nat → Int32)) (i1 : Int32) : Option (Int32 × Int32 × (Nat → Int32)) :=
  if (f_X10_isWithin i1 (32 : Int32) (126 : Int32)) = 0 then
  (some ((-1 : Int32), length, tcodes))
  else
  ((f_X9_add length tcodes i1).bind fun r1 =>
  if r1.1 = 0 then
  (some ((-2 : Int32), r1.2.1, r1.2.2))
  else
  (some (r1.2.1, r1.2.1, r1.2.2)))
def f_X10_clearText (length : Int32) : Int32 × Int32 :=
  (length, (0 : Int32))
def f_X10_faultPosition (length : Int32) (tcodes : (Nat → Int32)) : Option (Int32) :=
  (f_X9_findFault length tcodes).bind fun r1 =>
  some r1
def f_X10_read (length : Int32) (tcodes : (Nat → Int32)) (S : (Nat → Nat → Int32)) (lefts : (Nat → Int32)) (tops : (Nat → Int32)) (cwidths : (Nat → Int32)) (cheights : (Nat → Int32)) (originals : (Nat → Int32)) (orients : (Nat → Int32)) (hLatest : Int32) (hCount : Int32) (H0 : (Nat → Nat → Int32)) (H1 : (Nat → Nat → Int32)) (H2 : (Nat → Nat → Int32)) (H3 : (Nat → Nat → Int32)) (H4 : (Nat → Nat → Int32)) : Option (Int32 × (Nat → Nat → Int32) × (Nat → Int32) × (Nat → Int32) × (Nat → Int32) × (Nat → Int32) × (Nat → Int32) × (Nat → Int32) × Int32 × Int32 × (Nat → Nat → Int32) × (Nat → Nat → Int32) × (Nat → Nat → Int32) × (Nat → Nat → Int32) × (Nat → Nat → Int32)) :=
  (f_X9_findFault length tcodes).bind fun r1 =>
  if r1 = (-4 : Int32) then
  ((f_X9_countImages length tcodes).bind fun r2 =>
  if ((S 0 0) + r2) ≤ (24 : Int32) then
  ((f_X2_record hLatest hCount H0 H1 H2 H3 H4 S).bind fun r3 =>
  (f_X9_addImagesTo length tcodes (S 0 0) (S 1) (S 2) (S 3) (S 4)).bind fun r4 =>
  (f_X0_study lefts tops cwidths cheights originals orients r4.1 r4.2.1 r4.2.2.1 r4.2.2.2.2 (S 5 6) (S 5 7)).bind fun r5 =>
  some (r4.1, (updC (updC (updC (updC (updC S 0 (upd (S 0) 0 r4.1)) 1 r4.2.1) 2 r4.2.2.1) 3 r4.2.2.2.1) 4 r4.2.2.2.2), r5.1, r5.2.1, r5.2.2.1, r5.2.2.2.1, r5.2.2.2.2.1, r5.2.2.2.2.2, r3.1, r3.2.1, r3.2.2.1, r3.2.2.2.1, r3.2.2.2.2.1, r3.2.2.2.2.2.1, r3.2.2.2.2.2.2))
  else
  (some ((-2 : Int32), S, lefts, tops, cwidths, cheights, originals, orients, hLatest, hCount, H0, H1, H2, H3, H4)))
  else
  (some ((-3 : Int32), S, lefts, tops, cwidths, cheights, originals, orients, hLatest, hCount, H0, H1, H2, H3, H4))
def f_X10_nextRandom (rnd : Int64) : Int32 × Int64 :=
  g_bd (g_remL ((rnd * (1103515245 : Int64)) + (12345 : Int64)) (2147483648 : Int64)) fun y1 =>
  ((y1 / (65536 : Int64)).toInt32, y1)
def f_X10_drawOne_L43 (S : Nat → Nat → Int32) (x2 : Int32) (r5 : Int32 × Int32 × (Nat → Int32) × (Nat → Int32) × (Nat → Int32) × (Nat → Int32)) (x6 : Int32) (k83_10 : Int64 → (Nat → Nat → Int32) → Option (Int64 × (Nat → Nat → Int32))) : Nat → Int32 → Int64 → (Nat → Nat → Int32) → Option (Int64 × (Nat → Nat → Int32))
  | 0, _, _, _ => none
  | n+1, x13, x14, S15 =>
  if x2 ≤ x13 then
  (k83_10 x14 (updC (updC (updC (updC (updC S 0 (upd (S 0) 0 r5.2.1)) 1 r5.2.2.1) 2 r5.2.2.2.1) 3 r5.2.2.2.2.1) 4 (S15 4)))
  else
  (g_bd (f_X10_nextRandom x14) fun r16 =>
  (f_X6_setColor r5.2.1 r5.2.2.1 r5.2.2.2.1 (S15 4) r5.1 x13 x6 (g_max ((g_rem r16.1 (6 : Int32)) - (2 : Int32)) (0 : Int32))).bind fun r17 =>
  g_bd (x13 + 1) fun x18 =>
  f_X10_drawOne_L43 S x2 r5 x6 k83_10 n x18 r16.2 (updC (updC (updC (updC (updC S 0 (upd (S 0) 0 r5.2.1)) 1 r5.2.2.1) 2 r5.2.2.2.1) 3 r5.2.2.2.2.1) 4 r17))
def f_X10_drawOne_L34 (S : Nat → Nat → Int32) (x2 : Int32) (x4 : Int32) (r5 : Int32 × Int32 × (Nat → Int32) × (Nat → Int32) × (Nat → Int32) × (Nat → Int32)) : Nat → Int32 → Int64 → (Nat → Nat → Int32) → Option (Int64 × (Nat → Nat → Int32))
  | 0, _, _, _ => none
  | n+1, x6, x7, S8 =>
  if x4 ≤ x6 then
  (some (x7, (updC (updC (updC (updC (updC S 0 (upd (S 0) 0 r5.2.1)) 1 r5.2.2.1) 2 r5.2.2.2.1) 3 r5.2.2.2.2.1) 4 (S8 4))))
  else
  (g_jn (fun (x9 : Int64) (S10 : Nat → Nat → Int32) =>
  g_bd (x6 + 1) fun x12 =>
  f_X10_drawOne_L34 S x2 x4 r5 n x12 x9 (updC (updC (updC (updC (updC S 0 (upd (S 0) 0 r5.2.1)) 1 r5.2.2.1) 2 r5.2.2.2.1) 3 r5.2.2.2.2.1) 4 (S10 4))) fun k83_10 =>
  f_X10_drawOne_L43 S x2 r5 x6 k83_10 g_fuel (0 : Int32) x7 (updC (updC (updC (updC (updC S 0 (upd (S 0) 0 r5.2.1)) 1 r5.2.2.1) 2 r5.2.2.2.1) 3 r5.2.2.2.2.1) 4 (S8 4)))
def f_X10_drawOne (rnd : Int64) (S : (Nat → Nat → Int32)) : Option (Int64 × (Nat → Nat → Int32)) :=
  g_bd (f_X10_nextRandom rnd) fun r1 =>
  g_bd ((g_rem r1.1 (5 : Int32)) + (1 : Int32)) fun x2 =>
  g_bd (f_X10_nextRandom r1.2) fun r3 =>
  g_bd ((g_rem r3.1 (5 : Int32)) + (1 : Int32)) fun x4 =>
  (f_X6_add (S 0 0) (S 1) (S 2) (S 3) (S 4) x2 x4).bind fun r5 =>
  f_X10_drawOne_L34 S x2 x4 r5 g_fuel (0 : Int32) r3.2 (updC (updC (updC (updC (updC S 0 (upd (S 0) 0 r5.2.1)) 1 r5.2.2.1) 2 r5.2.2.2.1) 3 r5.2.2.2.2.1) 4 r5.2.2.2.2.2)
def f_X10_draw_L55 (S : Nat → Nat → Int32) (i2 : Int32) (k70_4 : Int64 → (Nat → Nat → Int32) → Option (Int32 × Int64 × (Nat → Nat → Int32) × (Nat → Int32) × (Nat → Int32) × (Nat → Int32) × (Nat → Int32) × (Nat → Int32) × (Nat → Int32) × Int32 × Int32 × (Nat → Nat → Int32) × (Nat → Nat → Int32) × (Nat → Nat → Int32) × (Nat → Nat → Int32) × (Nat → Nat → Int32))) : Nat → Int32 → Int64 → (Nat → Nat → Int32) → Option (Int32 × Int64 × (Nat → Nat → Int32) × (Nat → Int32) × (Nat → Int32) × (Nat → Int32) × (Nat → Int32) × (Nat → Int32) × (Nat → Int32) × Int32 × Int32 × (Nat → Nat → Int32) × (Nat → Nat → Int32) × (Nat → Nat → Int32) × (Nat → Nat → Int32) × (Nat → Nat → Int32))
  | 0, _, _, _ => none
  | n+1, x7, x8, S9 =>
  if i2 ≤ x7 then
  (k70_4 x8 (updC (updC (updC (updC (updC S 0 (upd (S 0) 0 (S9 0 0))) 1 (S9 1)) 2 (S9 2)) 3 (S9 3)) 4 (S9 4)))
  else
  ((f_X10_drawOne x8 (updC (updC (updC (updC (updC S 0 (upd (S 0) 0 (S9 0 0))) 1 (S9 1)) 2 (S9 2)) 3 (S9 3)) 4 (S9 4))).bind fun r10 =>
  g_bd (x7 + 1) fun x11 =>
  f_X10_draw_L55 S i2 k70_4 n x11 r10.1 (updC (updC (updC (updC (updC S 0 (upd (S 0) 0 (r10.2 0 0))) 1 (r10.2 1)) 2 (r10.2 2)) 3 (r10.2 3)) 4 (r10.2 4)))
def f_X10_draw (rnd : Int64) (S : (Nat → Nat → Int32)) (lefts : (Nat → Int32)) (tops : (Nat → Int32)) (cwidths : (Nat → Int32)) (cheights : (Nat → Int32)) (originals : (Nat → Int32)) (orients : (Nat → Int32)) (hLatest : Int32) (hCount : Int32) (H0 : (Nat → Nat → Int32)) (H1 : (Nat → Nat → Int32)) (H2 : (Nat → Nat → Int32)) (H3 : (Nat → Nat → Int32)) (H4 : (Nat → Nat → Int32)) (i1 : Int32) (i2 : Int32) : Option (Int32 × Int64 × (Nat → Nat → Int32) × (Nat → Int32) × (Nat → Int32) × (Nat → Int32) × (Nat → Int32) × (Nat → Int32) × (Nat → Int32) × Int32 × Int32 × (Nat → Nat → Int32) × (Nat → Nat → Int32) × (Nat → Nat → Int32) × (Nat → Nat → Int32) × (Nat → Nat → Int32)) :=
  if i1 < 0 then
  (some ((-1 : Int32), rnd, S, lefts, tops, cwidths, cheights, originals, orients, hLatest, hCount, H0, H1, H2, H3, H4))
  else
  (if (f_X10_isWithin i2 (1 : Int32) (8 : Int32)) = 0 then
  (some ((-1 : Int32), rnd, S, lefts, tops, cwidths, cheights, originals, orients, hLatest, hCount, H0, H1, H2, H3, H4))
  else
  (if ((S 0 0) + i2) ≤ (24 : Int32) then
  ((f_X2_record hLatest hCount H0 H1 H2 H3 H4 S).bind fun r1 =>
  g_bd (i1).toInt64 fun y2 =>
  g_jn (fun (x3 : Int64) (S4 : Nat → Nat → Int32) =>
  (f_X0_study lefts tops cwidths cheights originals orients (S4 0 0) (S4 1) (S4 2) (S4 4) (S 5 6) (S 5 7)).bind fun r6 =>
  some ((S4 0 0), x3, (updC (updC (updC (updC (updC S 0 (upd (S 0) 0 (S4 0 0))) 1 (S4 1)) 2 (S4 2)) 3 (S4 3)) 4 (S4 4)), r6.1, r6.2.1, r6.2.2.1, r6.2.2.2.1, r6.2.2.2.2.1, r6.2.2.2.2.2, r1.1, r1.2.1, r1.2.2.1, r1.2.2.2.1, r1.2.2.2.2.1, r1.2.2.2.2.2.1, r1.2.2.2.2.2.2)) fun k70_4 =>
  f_X10_draw_L55 S i2 k70_4 g_fuel (0 : Int32) y2 S)
  else
  (some ((-2 : Int32), rnd, S, lefts, tops, cwidths, cheights, originals, orients, hLatest, hCount, H0, H1, H2, H3, H4))))
def f_X10_sprites (S : (Nat → Nat → Int32)) : Int32 :=
  (S 0 0)
def f_X10_width (S : (Nat → Nat → Int32)) (i1 : Int32) : Option (Int32) :=
  if (f_X6_has (S 0 0) i1) = 0 then
  (some (-1 : Int32))
  else
  (g_rd (S 1) 24 i1 fun x1 =>
  some x1)
def f_X10_height (S : (Nat → Nat → Int32)) (i1 : Int32) : Option (Int32) :=
  if (f_X6_has (S 0 0) i1) = 0 then
  (some (-1 : Int32))
  else
  (g_rd (S 2) 24 i1 fun x1 =>
  some x1)
def f_X10_color (S : (Nat → Nat → Int32)) (i1 : Int32) (i2 : Int32) (i3 : Int32) : Option (Int32) :=
  (f_X6_hasPixel (S 0 0) (S 1) (S 2) i1 i2 i3).bind fun r1 =>
  if r1 = 0 then
  (some (-1 : Int32))
  else
  ((f_X6_colorAt (S 4) i1 i2 i3).bind fun r2 =>
  some r2)
def f_X10_emptyAtlas (S : (Nat → Nat → Int32)) (lefts : (Nat → Int32)) (tops : (Nat → Int32)) (cwidths : (Nat → Int32)) (cheights : (Nat → Int32)) (originals : (Nat → Int32)) (orients : (Nat → Int32)) : Option ((Nat → Nat → Int32) × (Nat → Int32) × (Nat → Int32) × (Nat → Int32) × (Nat → Int32) × (Nat → Int32) × (Nat → Int32)) :=
  (f_X4_removeAll (S 8)).bind fun r1 =>
  (f_X0_study lefts tops cwidths cheights originals orients (S 0 0) (S 1) (S 2) (S 4) (S 5 6) (S 5 7)).bind fun r2 =>
  some ((updC (updC S 6 (upd (S 6) 0 r1.1)) 8 r1.2), r2.1, r2.2.1, r2.2.2.1, r2.2.2.2.1, r2.2.2.2.2.1, r2.2.2.2.2.2)
def f_X10_setPixel (S : (Nat → Nat → Int32)) (lefts : (Nat → Int32)) (tops : (Nat → Int32)) (cwidths : (Nat → Int32)) (cheights : (Nat → Int32)) (originals : (Nat → Int32)) (orients : (Nat → Int32)) (hLatest : Int32) (hCount : Int32) (H0 : (Nat → Nat → Int32)) (H1 : (Nat → Nat → Int32)) (H2 : (Nat → Nat → Int32)) (H3 : (Nat → Nat → Int32)) (H4 : (Nat → Nat → Int32)) (i1 : Int32) (i2 : Int32) (i3 : Int32) (i4 : Int32) : Option (Int32 × (Nat → Nat → Int32) × (Nat → Int32) × (Nat → Int32) × (Nat → Int32) × (Nat → Int32) × (Nat → Int32) × (Nat → Int32) × Int32 × Int32 × (Nat → Nat → Int32) × (Nat → Nat → Int32) × (Nat → Nat → Int32) × (Nat → Nat → Int32) × (Nat → Nat → Int32)) :=
  (f_X6_hasPixel (S 0 0) (S 1) (S 2) i1 i2 i3).bind fun r1 =>
  if r1 = 0 then
  (some ((-1 : Int32), S, lefts, tops, cwidths, cheights, originals, orients, hLatest, hCount, H0, H1, H2, H3, H4))
  else
  (if (f_X10_isWithin i4 (0 : Int32) (9 : Int32)) = 0 then
  (some ((-1 : Int32), S, lefts, tops, cwidths, cheights, originals, orients, hLatest, hCount, H0, H1, H2, H3, H4))
  else
  ((f_X6_colorAt (S 4) i1 i2 i3).bind fun r2 =>
  (f_X2_record hLatest hCount H0 H1 H2 H3 H4 S).bind fun r3 =>
  (f_X6_setColor (S 0 0) (S 1) (S 2) (S 4) i1 i2 i3 i4).bind fun r4 =>
  (f_X10_emptyAtlas (updC S 4 r4) lefts tops cwidths cheights originals orients).bind fun r5 =>
  some (r2, (updC (updC (updC S 4 r4) 6 (upd (S 6) 0 (r5.1 6 0))) 8 (r5.1 8)), r5.2.1, r5.2.2.1, r5.2.2.2.1, r5.2.2.2.2.1, r5.2.2.2.2.2.1, r5.2.2.2.2.2.2, r3.1, r3.2.1, r3.2.2.1, r3.2.2.2.1, r3.2.2.2.2.1, r3.2.2.2.2.2.1, r3.2.2.2.2.2.2)))
def f_X10_drop (S : (Nat → Nat → Int32)) (lefts : (Nat → Int32)) (tops : (Nat → Int32)) (cwidths : (Nat → Int32)) (cheights : (Nat → Int32)) (originals : (Nat → Int32)) (orients : (Nat → Int32)) (hLatest : Int32) (hCount : Int32) (H0 : (Nat → Nat → Int32)) (H1 : (Nat → Nat → Int32)) (H2 : (Nat → Nat → Int32)) (H3 : (Nat → Nat → Int32)) (H4 : (Nat → Nat → Int32)) (i1 : Int32) : Option (Int32 × (Nat → Nat → Int32) × (Nat → Int32) × (Nat → Int32) × (Nat → Int32) × (Nat → Int32) × (Nat → Int32) × (Nat → Int32) × Int32 × Int32 × (Nat → Nat → Int32) × (Nat → Nat → Int32) × (Nat → Nat → Int32) × (Nat → Nat → Int32) × (Nat → Nat → Int32)) :=
  if (f_X6_has (S 0 0) i1) = 0 then
  (some ((-1 : Int32), S, lefts, tops, cwidths, cheights, originals, orients, hLatest, hCount, H0, H1, H2, H3, H4))
  else
  ((f_X2_record hLatest hCount H0 H1 H2 H3 H4 S).bind fun r1 =>
  (f_X6_remove (S 0 0) (S 1) (S 2) (S 3) (S 4) i1).bind fun r2 =>
  (f_X10_emptyAtlas (updC (updC (updC (updC (updC S 0 (upd (S 0) 0 r2.1)) 1 r2.2.1) 2 r2.2.2.1) 3 r2.2.2.2.1) 4 r2.2.2.2.2) lefts tops cwidths cheights originals orients).bind fun r3 =>
  some (r2.1, (updC (updC (updC (updC (updC (updC (updC S 0 (upd (S 0) 0 r2.1)) 1 r2.2.1) 2 r2.2.2.1) 3 r2.2.2.2.1) 4 r2.2.2.2.2) 6 (upd (S 6) 0 (r3.1 6 0))) 8 (r3.1 8)), r3.2.1, r3.2.2.1, r3.2.2.2.1, r3.2.2.2.2.1, r3.2.2.2.2.2.1, r3.2.2.2.2.2.2, r1.1, r1.2.1, r1.2.2.1, r1.2.2.2.1, r1.2.2.2.2.1, r1.2.2.2.2.2.1, r1.2.2.2.2.2.2))
def f_X10_setGroup (S : (Nat → Nat → Int32)) (hLatest : Int32) (hCount : Int32) (H0 : (Nat → Nat → Int32)) (H1 : (Nat → Nat → Int32)) (H2 : (Nat → Nat → Int32)) (H3 : (Nat → Nat → Int32)) (H4 : (Nat → Nat → Int32)) (i1 : Int32) (i2 : Int32) : Option (Int32 × (Nat → Nat → Int32) × Int32 × Int32 × (Nat → Nat → Int32) × (Nat → Nat → Int32) × (Nat → Nat → Int32) × (Nat → Nat → Int32) × (Nat → Nat → Int32)) :=
  if (f_X6_has (S 0 0) i1) = 0 then
  (some ((-1 : Int32), S, hLatest, hCount, H0, H1, H2, H3, H4))
  else
  (if (f_X10_isWithin i2 (0 : Int32) (3 : Int32)) = 0 then
  (some ((-1 : Int32), S, hLatest, hCount, H0, H1, H2, H3, H4))
  else
  (g_rd (S 3) 24 i1 fun x1 =>
  (f_X2_record hLatest hCount H0 H1 H2 H3 H4 S).bind fun r2 =>
  g_wr (S 3) 24 i1 i2 fun f3 =>
  some (x1, (updC S 3 f3), r2.1, r2.2.1, r2.2.2.1, r2.2.2.2.1, r2.2.2.2.2.1, r2.2.2.2.2.2.1, r2.2.2.2.2.2.2)))
def f_X10_groupOf (S : (Nat → Nat → Int32)) (i1 : Int32) : Option (Int32) :=
  if (f_X6_has (S 0 0) i1) = 0 then
  (some (-1 : Int32))
  else
  (g_rd (S 3) 24 i1 fun x1 =>
  some x1)
def f_X10_trimLeft (S : (Nat → Nat → Int32)) (lefts : (Nat → Int32)) (i1 : Int32) : Option (Int32) :=
  if (f_X6_has (S 0 0) i1) = 0 then
  (some (-1 : Int32))
  else
  (g_rd lefts 24 i1 fun x1 =>
  some x1)
def f_X10_trimTop (S : (Nat → Nat → Int32)) (tops : (Nat → Int32)) (i1 : Int32) : Option (Int32) :=
  if (f_X6_has (S 0 0) i1) = 0 then
  (some (-1 : Int32))
  else
  (g_rd tops 24 i1 fun x1 =>
  some x1)
def f_X10_trimWidth (S : (Nat → Nat → Int32)) (cwidths : (Nat → Int32)) (i1 : Int32) : Option (Int32) :=
  if (f_X6_has (S 0 0) i1) = 0 then
  (some (-1 : Int32))
  else
  (g_rd cwidths 24 i1 fun x1 =>
  some x1)
def f_X10_trimHeight (S : (Nat → Nat → Int32)) (cheights : (Nat → Int32)) (i1 : Int32) : Option (Int32) :=
  if (f_X6_has (S 0 0) i1) = 0 then
  (some (-1 : Int32))
  else
  (g_rd cheights 24 i1 fun x1 =>
  some x1)
def f_X10_originalOf (S : (Nat → Nat → Int32)) (originals : (Nat → Int32)) (i1 : Int32) : Option (Int32) :=
  if (f_X6_has (S 0 0) i1) = 0 then
  (some (-1 : Int32))
  else
  (g_rd originals 24 i1 fun x1 =>
  some x1)
def f_X10_orientationOf (S : (Nat → Nat → Int32)) (orients : (Nat → Int32)) (i1 : Int32) : Option (Int32) :=
  if (f_X6_has (S 0 0) i1) = 0 then
  (some (-1 : Int32))
  else
  (g_rd orients 24 i1 fun x1 =>
  some x1)
def f_X10_setPageSize (S : (Nat → Nat → Int32)) (lefts : (Nat → Int32)) (tops : (Nat → Int32)) (cwidths : (Nat → Int32)) (cheights : (Nat → Int32)) (originals : (Nat → Int32)) (orients : (Nat → Int32)) (hLatest : Int32) (hCount : Int32) (H0 : (Nat → Nat → Int32)) (H1 : (Nat → Nat → Int32)) (H2 : (Nat → Nat → Int32)) (H3 : (Nat → Nat → Int32)) (H4 : (Nat → Nat → Int32)) (i1 : Int32) (i2 : Int32) : Option (Int32 × (Nat → Nat → Int32) × (Nat → Int32) × (Nat → Int32) × (Nat → Int32) × (Nat → Int32) × (Nat → Int32) × (Nat → Int32) × Int32 × Int32 × (Nat → Nat → Int32) × (Nat → Nat → Int32) × (Nat → Nat → Int32) × (Nat → Nat → Int32) × (Nat → Nat → Int32)) :=
  if (f_X10_isWithin i1 (4 : Int32) (32 : Int32)) = 0 then
  (some ((-1 : Int32), S, lefts, tops, cwidths, cheights, originals, orients, hLatest, hCount, H0, H1, H2, H3, H4))
  else
  (if (f_X10_isWithin i2 (4 : Int32) (32 : Int32)) = 0 then
  (some ((-1 : Int32), S, lefts, tops, cwidths, cheights, originals, orients, hLatest, hCount, H0, H1, H2, H3, H4))
  else
  (g_bd (((100 : Int32) * (S 5 0)) + (S 5 1)) fun x1 =>
  (f_X2_record hLatest hCount H0 H1 H2 H3 H4 S).bind fun r2 =>
  (f_X10_emptyAtlas (updC S 5 (upd (upd (S 5) 0 i1) 1 i2)) lefts tops cwidths cheights originals orients).bind fun r3 =>
  some (x1, (updC (updC (updC S 5 (upd (upd (S 5) 0 i1) 1 i2)) 6 (upd (S 6) 0 (r3.1 6 0))) 8 (r3.1 8)), r3.2.1, r3.2.2.1, r3.2.2.2.1, r3.2.2.2.2.1, r3.2.2.2.2.2.1, r3.2.2.2.2.2.2, r2.1, r2.2.1, r2.2.2.1, r2.2.2.2.1, r2.2.2.2.2.1, r2.2.2.2.2.2.1, r2.2.2.2.2.2.2)))
def f_X10_setPageLimit (S : (Nat → Nat → Int32)) (lefts : (Nat → Int32)) (tops : (Nat → Int32)) (cwidths : (Nat → Int32)) (cheights : (Nat → Int32)) (originals : (Nat → Int32)) (orients : (Nat → Int32)) (hLatest : Int32) (hCount : Int32) (H0 : (Nat → Nat → Int32)) (H1 : (Nat → Nat → Int32)) (H2 : (Nat → Nat → Int32)) (H3 : (Nat → Nat → Int32)) (H4 : (Nat → Nat → Int32)) (i1 : Int32) : Option (Int32 × (Nat → Nat → Int32) × (Nat → Int32) × (Nat → Int32) × (Nat → Int32) × (Nat → Int32) × (Nat → Int32) × (Nat → Int32) × Int32 × Int32 × (Nat → Nat → Int32) × (Nat → Nat → Int32) × (Nat → Nat → Int32) × (Nat → Nat → Int32) × (Nat → Nat → Int32)) :=
  if (f_X10_isWithin i1 (1 : Int32) (4 : Int32)) = 0 then
  (some ((-1 : Int32), S, lefts, tops, cwidths, cheights, originals, orients, hLatest, hCount, H0, H1, H2, H3, H4))
  else
  ((f_X2_record hLatest hCount H0 H1 H2 H3 H4 S).bind fun r1 =>
  (f_X10_emptyAtlas (updC S 5 (upd (S 5) 2 i1)) lefts tops cwidths cheights originals orients).bind fun r2 =>
  some ((S 5 2), (updC (updC (updC S 5 (upd (S 5) 2 i1)) 6 (upd (S 6) 0 (r2.1 6 0))) 8 (r2.1 8)), r2.2.1, r2.2.2.1, r2.2.2.2.1, r2.2.2.2.2.1, r2.2.2.2.2.2.1, r2.2.2.2.2.2.2, r1.1, r1.2.1, r1.2.2.1, r1.2.2.2.1, r1.2.2.2.2.1, r1.2.2.2.2.2.1, r1.2.2.2.2.2.2))
def f_X10_setMargins (S : (Nat → Nat → Int32)) (lefts : (Nat → Int32)) (tops : (Nat → Int32)) (cwidths : (Nat → Int32)) (cheights : (Nat → Int32)) (originals : (Nat → Int32)) (orients : (Nat → Int32)) (hLatest : Int32) (hCount : Int32) (H0 : (Nat → Nat → Int32)) (H1 : (Nat → Nat → Int32)) (H2 : (Nat → Nat → Int32)) (H3 : (Nat → Nat → Int32)) (H4 : (Nat → Nat → Int32)) (i1 : Int32) (i2 : Int32) (i3 : Int32) : Option (Int32 × (Nat → Nat → Int32) × (Nat → Int32) × (Nat → Int32) × (Nat → Int32) × (Nat → Int32) × (Nat → Int32) × (Nat → Int32) × Int32 × Int32 × (Nat → Nat → Int32) × (Nat → Nat → Int32) × (Nat → Nat → Int32) × (Nat → Nat → Int32) × (Nat → Nat → Int32)) :=
  if (f_X10_isWithin i1 (0 : Int32) (3 : Int32)) = 0 then
  (some ((-1 : Int32), S, lefts, tops, cwidths, cheights, originals, orients, hLatest, hCount, H0, H1, H2, H3, H4))
  else
  (if (f_X10_isWithin i2 (0 : Int32) (3 : Int32)) = 0 then
  (some ((-1 : Int32), S, lefts, tops, cwidths, cheights, originals, orients, hLatest, hCount, H0, H1, H2, H3, H4))
  else
  (if (f_X10_isWithin i3 (0 : Int32) (2 : Int32)) = 0 then
  (some ((-1 : Int32), S, lefts, tops, cwidths, cheights, originals, orients, hLatest, hCount, H0, H1, H2, H3, H4))
  else
  (g_bd ((((100 : Int32) * (S 5 3)) + ((10 : Int32) * (S 5 4))) + (S 5 5)) fun x1 =>
  (f_X2_record hLatest hCount H0 H1 H2 H3 H4 S).bind fun r2 =>
  (f_X10_emptyAtlas (updC S 5 (upd (upd (upd (S 5) 3 i1) 4 i2) 5 i3)) lefts tops cwidths cheights originals orients).bind fun r3 =>
  some (x1, (updC (updC (updC S 5 (upd (upd (upd (S 5) 3 i1) 4 i2) 5 i3)) 6 (upd (S 6) 0 (r3.1 6 0))) 8 (r3.1 8)), r3.2.1, r3.2.2.1, r3.2.2.2.1, r3.2.2.2.2.1, r3.2.2.2.2.2.1, r3.2.2.2.2.2.2, r2.1, r2.2.1, r2.2.2.1, r2.2.2.2.1, r2.2.2.2.2.1, r2.2.2.2.2.2.1, r2.2.2.2.2.2.2))))
def f_X10_asNumber (i1 : Int32) : Int32 :=
  if i1 = 0 then
  ((0 : Int32))
  else
  ((1 : Int32))
def f_X10_setTrimming (S : (Nat → Nat → Int32)) (lefts : (Nat → Int32)) (tops : (Nat → Int32)) (cwidths : (Nat → Int32)) (cheights : (Nat → Int32)) (originals : (Nat → Int32)) (orients : (Nat → Int32)) (hLatest : Int32) (hCount : Int32) (H0 : (Nat → Nat → Int32)) (H1 : (Nat → Nat → Int32)) (H2 : (Nat → Nat → Int32)) (H3 : (Nat → Nat → Int32)) (H4 : (Nat → Nat → Int32)) (i1 : Int32) : Option (Int32 × (Nat → Nat → Int32) × (Nat → Int32) × (Nat → Int32) × (Nat → Int32) × (Nat → Int32) × (Nat → Int32) × (Nat → Int32) × Int32 × Int32 × (Nat → Nat → Int32) × (Nat → Nat → Int32) × (Nat → Nat → Int32) × (Nat → Nat → Int32) × (Nat → Nat → Int32)) :=
  g_bd (f_X10_asNumber (S 5 6)) fun x1 =>
  (f_X2_record hLatest hCount H0 H1 H2 H3 H4 S).bind fun r2 =>
  g_z i1 <|
  (f_X10_emptyAtlas (updC S 5 (upd (S 5) 6 i1)) lefts tops cwidths cheights originals orients).bind fun r4 =>
  some (x1, (updC (updC (updC S 5 (upd (S 5) 6 i1)) 6 (upd (S 6) 0 (r4.1 6 0))) 8 (r4.1 8)), r4.2.1, r4.2.2.1, r4.2.2.2.1, r4.2.2.2.2.1, r4.2.2.2.2.2.1, r4.2.2.2.2.2.2, r2.1, r2.2.1, r2.2.2.1, r2.2.2.2.1, r2.2.2.2.2.1, r2.2.2.2.2.2.1, r2.2.2.2.2.2.2)
def f_X10_setMatching (S : (Nat → Nat → Int32)) (lefts : (Nat → Int32)) (tops : (Nat → Int32)) (cwidths : (Nat → Int32)) (cheights : (Nat → Int32)) (originals : (Nat → Int32)) (orients : (Nat → Int32)) (hLatest : Int32) (hCount : Int32) (H0 : (Nat → Nat → Int32)) (H1 : (Nat → Nat → Int32)) (H2 : (Nat → Nat → Int32)) (H3 : (Nat → Nat → Int32)) (H4 : (Nat → Nat → Int32)) (i1 : Int32) : Option (Int32 × (Nat → Nat → Int32) × (Nat → Int32) × (Nat → Int32) × (Nat → Int32) × (Nat → Int32) × (Nat → Int32) × (Nat → Int32) × Int32 × Int32 × (Nat → Nat → Int32) × (Nat → Nat → Int32) × (Nat → Nat → Int32) × (Nat → Nat → Int32) × (Nat → Nat → Int32)) :=
  if (f_X10_isWithin i1 (0 : Int32) (3 : Int32)) = 0 then
  (some ((-1 : Int32), S, lefts, tops, cwidths, cheights, originals, orients, hLatest, hCount, H0, H1, H2, H3, H4))
  else
  ((f_X2_record hLatest hCount H0 H1 H2 H3 H4 S).bind fun r1 =>
  (f_X10_emptyAtlas (updC S 5 (upd (S 5) 7 i1)) lefts tops cwidths cheights originals orients).bind fun r2 =>
  some ((S 5 7), (updC (updC (updC S 5 (upd (S 5) 7 i1)) 6 (upd (S 6) 0 (r2.1 6 0))) 8 (r2.1 8)), r2.2.1, r2.2.2.1, r2.2.2.2.1, r2.2.2.2.2.1, r2.2.2.2.2.2.1, r2.2.2.2.2.2.2, r1.1, r1.2.1, r1.2.2.1, r1.2.2.2.1, r1.2.2.2.2.1, r1.2.2.2.2.2.1, r1.2.2.2.2.2.2))
def f_X10_setRotation (S : (Nat → Nat → Int32)) (lefts : (Nat → Int32)) (tops : (Nat → Int32)) (cwidths : (Nat → Int32)) (cheights : (Nat → Int32)) (originals : (Nat → Int32)) (orients : (Nat → Int32)) (hLatest : Int32) (hCount : Int32) (H0 : (Nat → Nat → Int32)) (H1 : (Nat → Nat → Int32)) (H2 : (Nat → Nat → Int32)) (H3 : (Nat → Nat → Int32)) (H4 : (Nat → Nat → Int32)) (i1 : Int32) : Option (Int32 × (Nat → Nat → Int32) × (Nat → Int32) × (Nat → Int32) × (Nat → Int32) × (Nat → Int32) × (Nat → Int32) × (Nat → Int32) × Int32 × Int32 × (Nat → Nat → Int32) × (Nat → Nat → Int32) × (Nat → Nat → Int32) × (Nat → Nat → Int32) × (Nat → Nat → Int32)) :=
  g_bd (f_X10_asNumber (S 5 8)) fun x1 =>
  (f_X2_record hLatest hCount H0 H1 H2 H3 H4 S).bind fun r2 =>
  g_z i1 <|
  (f_X10_emptyAtlas (updC S 5 (upd (S 5) 8 i1)) lefts tops cwidths cheights originals orients).bind fun r4 =>
  some (x1, (updC (updC (updC S 5 (upd (S 5) 8 i1)) 6 (upd (S 6) 0 (r4.1 6 0))) 8 (r4.1 8)), r4.2.1, r4.2.2.1, r4.2.2.2.1, r4.2.2.2.2.1, r4.2.2.2.2.2.1, r4.2.2.2.2.2.2, r2.1, r2.2.1, r2.2.2.1, r2.2.2.2.1, r2.2.2.2.2.1, r2.2.2.2.2.2.1, r2.2.2.2.2.2.2)
def f_X10_setGrouped (S : (Nat → Nat → Int32)) (lefts : (Nat → Int32)) (tops : (Nat → Int32)) (cwidths : (Nat → Int32)) (cheights : (Nat → Int32)) (originals : (Nat → Int32)) (orients : (Nat → Int32)) (hLatest : Int32) (hCount : Int32) (H0 : (Nat → Nat → Int32)) (H1 : (Nat → Nat → Int32)) (H2 : (Nat → Nat → Int32)) (H3 : (Nat → Nat → Int32)) (H4 : (Nat → Nat → Int32)) (i1 : Int32) : Option (Int32 × (Nat → Nat → Int32) × (Nat → Int32) × (Nat → Int32) × (Nat → Int32) × (Nat → Int32) × (Nat → Int32) × (Nat → Int32) × Int32 × Int32 × (Nat → Nat → Int32) × (Nat → Nat → Int32) × (Nat → Nat → Int32) × (Nat → Nat → Int32) × (Nat → Nat → Int32)) :=
  g_bd (f_X10_asNumber (S 5 9)) fun x1 =>
  (f_X2_record hLatest hCount H0 H1 H2 H3 H4 S).bind fun r2 =>
  g_z i1 <|
  (f_X10_emptyAtlas (updC S 5 (upd (S 5) 9 i1)) lefts tops cwidths cheights originals orients).bind fun r4 =>
  some (x1, (updC (updC (updC S 5 (upd (S 5) 9 i1)) 6 (upd (S 6) 0 (r4.1 6 0))) 8 (r4.1 8)), r4.2.1, r4.2.2.1, r4.2.2.2.1, r4.2.2.2.2.1, r4.2.2.2.2.2.1, r4.2.2.2.2.2.2, r2.1, r2.2.1, r2.2.2.1, r2.2.2.2.1, r2.2.2.2.2.1, r2.2.2.2.2.2.1, r2.2.2.2.2.2.2)
def f_X10_setOrder (S : (Nat → Nat → Int32)) (lefts : (Nat → Int32)) (tops : (Nat → Int32)) (cwidths : (Nat → Int32)) (cheights : (Nat → Int32)) (originals : (Nat → Int32)) (orients : (Nat → Int32)) (hLatest : Int32) (hCount : Int32) (H0 : (Nat → Nat → Int32)) (H1 : (Nat → Nat → Int32)) (H2 : (Nat → Nat → Int32)) (H3 : (Nat → Nat → Int32)) (H4 : (Nat → Nat → Int32)) (i1 : Int32) : Option (Int32 × (Nat → Nat → Int32) × (Nat → Int32) × (Nat → Int32) × (Nat → Int32) × (Nat → Int32) × (Nat → Int32) × (Nat → Int32) × Int32 × Int32 × (Nat → Nat → Int32) × (Nat → Nat → Int32) × (Nat → Nat → Int32) × (Nat → Nat → Int32) × (Nat → Nat → Int32)) :=
  if (f_X10_isWithin i1 (0 : Int32) (3 : Int32)) = 0 then
  (some ((-1 : Int32), S, lefts, tops, cwidths, cheights, originals, orients, hLatest, hCount, H0, H1, H2, H3, H4))
  else
  ((f_X2_record hLatest hCount H0 H1 H2 H3 H4 S).bind fun r1 =>
  (f_X10_emptyAtlas (updC S 5 (upd (S 5) 10 i1)) lefts tops cwidths cheights originals orients).bind fun r2 =>
  some ((S 5 10), (updC (updC (updC S 5 (upd (S 5) 10 i1)) 6 (upd (S 6) 0 (r2.1 6 0))) 8 (r2.1 8)), r2.2.1, r2.2.2.1, r2.2.2.2.1, r2.2.2.2.2.1, r2.2.2.2.2.2.1, r2.2.2.2.2.2.2, r1.1, r1.2.1, r1.2.2.1, r1.2.2.2.1, r1.2.2.2.2.1, r1.2.2.2.2.2.1, r1.2.2.2.2.2.2))
def f_X10_setWay (S : (Nat → Nat → Int32)) (lefts : (Nat → Int32)) (tops : (Nat → Int32)) (cwidths : (Nat → Int32)) (cheights : (Nat → Int32)) (originals : (Nat → Int32)) (orients : (Nat → Int32)) (hLatest : Int32) (hCount : Int32) (H0 : (Nat → Nat → Int32)) (H1 : (Nat → Nat → Int32)) (H2 : (Nat → Nat → Int32)) (H3 : (Nat → Nat → Int32)) (H4 : (Nat → Nat → Int32)) (i1 : Int32) : Option (Int32 × (Nat → Nat → Int32) × (Nat → Int32) × (Nat → Int32) × (Nat → Int32) × (Nat → Int32) × (Nat → Int32) × (Nat → Int32) × Int32 × Int32 × (Nat → Nat → Int32) × (Nat → Nat → Int32) × (Nat → Nat → Int32) × (Nat → Nat → Int32) × (Nat → Nat → Int32)) :=
  if (f_X10_isWithin i1 (0 : Int32) (3 : Int32)) = 0 then
  (some ((-1 : Int32), S, lefts, tops, cwidths, cheights, originals, orients, hLatest, hCount, H0, H1, H2, H3, H4))
  else
  ((f_X2_record hLatest hCount H0 H1 H2 H3 H4 S).bind fun r1 =>
  (f_X10_emptyAtlas (updC S 5 (upd (S 5) 11 i1)) lefts tops cwidths cheights originals orients).bind fun r2 =>
  some ((S 5 11), (updC (updC (updC S 5 (upd (S 5) 11 i1)) 6 (upd (S 6) 0 (r2.1 6 0))) 8 (r2.1 8)), r2.2.1, r2.2.2.1, r2.2.2.2.1, r2.2.2.2.2.1, r2.2.2.2.2.2.1, r2.2.2.2.2.2.2, r1.1, r1.2.1, r1.2.2.1, r1.2.2.2.1, r1.2.2.2.2.1, r1.2.2.2.2.2.1, r1.2.2.2.2.2.2))
def f_X10_pack (S : (Nat → Nat → Int32)) (cwidths : (Nat → Int32)) (cheights : (Nat → Int32)) (originals : (Nat → Int32)) (spW : Int32) (spH : Int32) (fr : (Nat → Int64)) (codes : (Nat → Int32)) (counts : (Nat → Int32)) (chFound : Int32) (chPage : Int32) (chCol : Int32) (chRow : Int32) (chTurned : Int32) (chFirst : Int32) (chSecond : Int32) (line : (Nat → Int32)) (hLatest : Int32) (hCount : Int32) (H0 : (Nat → Nat → Int32)) (H1 : (Nat → Nat → Int32)) (H2 : (Nat → Nat → Int32)) (H3 : (Nat → Nat → Int32)) (H4 : (Nat → Nat → Int32)) : Option (Int32 × (Nat → Nat → Int32) × Int32 × Int32 × (Nat → Int64) × (Nat → Int32) × (Nat → Int32) × Int32 × Int32 × Int32 × Int32 × Int32 × Int32 × Int32 × (Nat → Int32) × Int32 × Int32 × (Nat → Nat → Int32) × (Nat → Nat → Int32) × (Nat → Nat → Int32) × (Nat → Nat → Int32) × (Nat → Nat → Int32)) :=
  (f_X2_record hLatest hCount H0 H1 H2 H3 H4 S).bind fun r1 =>
  (f_X3_placeAll spW spH fr codes counts chFound chPage chCol chRow chTurned chFirst chSecond line S cwidths cheights originals).bind fun r2 =>
  some (r2.1, (updC (updC (updC (updC (updC (updC S 6 (upd (S 6) 0 (r2.2.2.2.2.2.2.2.2.2.2.2.2.2.2 6 0))) 7 (r2.2.2.2.2.2.2.2.2.2.2.2.2.2.2 7)) 8 (r2.2.2.2.2.2.2.2.2.2.2.2.2.2.2 8)) 9 (r2.2.2.2.2.2.2.2.2.2.2.2.2.2.2 9)) 10 (r2.2.2.2.2.2.2.2.2.2.2.2.2.2.2 10)) 11 (r2.2.2.2.2.2.2.2.2.2.2.2.2.2.2 11)), r2.2.1, r2.2.2.1, r2.2.2.2.1, r2.2.2.2.2.1, r2.2.2.2.2.2.1, r2.2.2.2.2.2.2.1, r2.2.2.2.2.2.2.2.1, r2.2.2.2.2.2.2.2.2.1, r2.2.2.2.2.2.2.2.2.2.1, r2.2.2.2.2.2.2.2.2.2.2.1, r2.2.2.2.2.2.2.2.2.2.2.2.1, r2.2.2.2.2.2.2.2.2.2.2.2.2.1, r2.2.2.2.2.2.2.2.2.2.2.2.2.2.1, r1.1, r1.2.1, r1.2.2.1, r1.2.2.2.1, r1.2.2.2.2.1, r1.2.2.2.2.2.1, r1.2.2.2.2.2.2)
def f_X10_insert (S : (Nat → Nat → Int32)) (cwidths : (Nat → Int32)) (cheights : (Nat → Int32)) (originals : (Nat → Int32)) (spW : Int32) (spH : Int32) (fr : (Nat → Int64)) (codes : (Nat → Int32)) (counts : (Nat → Int32)) (chFound : Int32) (chPage : Int32) (chCol : Int32) (chRow : Int32) (chTurned : Int32) (chFirst : Int32) (chSecond : Int32) (hLatest : Int32) (hCount : Int32) (H0 : (Nat → Nat → Int32)) (H1 : (Nat → Nat → Int32)) (H2 : (Nat → Nat → Int32)) (H3 : (Nat → Nat → Int32)) (H4 : (Nat → Nat → Int32)) (i1 : Int32) : Option (Int32 × (Nat → Nat → Int32) × Int32 × Int32 × (Nat → Int64) × (Nat → Int32) × (Nat → Int32) × Int32 × Int32 × Int32 × Int32 × Int32 × Int32 × Int32 × Int32 × Int32 × (Nat → Nat → Int32) × (Nat → Nat → Int32) × (Nat → Nat → Int32) × (Nat → Nat → Int32) × (Nat → Nat → Int32)) :=
  if (f_X6_has (S 0 0) i1) = 0 then
  (some ((-1 : Int32), S, spW, spH, fr, codes, counts, chFound, chPage, chCol, chRow, chTurned, chFirst, chSecond, hLatest, hCount, H0, H1, H2, H3, H4))
  else
  ((f_X0_isOriginal cwidths originals i1).bind fun r1 =>
  if r1 = 0 then
  (some ((-3 : Int32), S, spW, spH, fr, codes, counts, chFound, chPage, chCol, chRow, chTurned, chFirst, chSecond, hLatest, hCount, H0, H1, H2, H3, H4))
  else
  (g_rd (S 8) 24 i1 fun x2 =>
  if x2 = (-4 : Int32) then
  ((f_X3_choose codes counts chFound chPage chCol chRow chTurned chFirst chSecond S cwidths cheights i1).bind fun r3 =>
  if r3.1 = 0 then
  (some ((-2 : Int32), S, spW, spH, fr, codes, counts, r3.2.1, r3.2.2.1, r3.2.2.2.1, r3.2.2.2.2.1, r3.2.2.2.2.2.1, r3.2.2.2.2.2.2.1, r3.2.2.2.2.2.2.2, hLatest, hCount, H0, H1, H2, H3, H4))
  else
  ((f_X2_record hLatest hCount H0 H1 H2 H3 H4 S).bind fun r4 =>
  (f_X3_putAsChosen fr codes counts r3.2.2.1 r3.2.2.2.1 r3.2.2.2.2.1 r3.2.2.2.2.2.1 S cwidths cheights i1).bind fun r5 =>
  g_rd (r5.2.2.2.2.2 8) 24 i1 fun x6 =>
  some (x6, (updC (updC (updC (updC (updC (updC S 6 (upd (S 6) 0 (r5.2.2.2.2.2 6 0))) 7 (r5.2.2.2.2.2 7)) 8 (r5.2.2.2.2.2 8)) 9 (r5.2.2.2.2.2 9)) 10 (r5.2.2.2.2.2 10)) 11 (r5.2.2.2.2.2 11)), r5.1, r5.2.1, r5.2.2.1, r5.2.2.2.1, r5.2.2.2.2.1, r3.2.1, r3.2.2.1, r3.2.2.2.1, r3.2.2.2.2.1, r3.2.2.2.2.2.1, r3.2.2.2.2.2.2.1, r3.2.2.2.2.2.2.2, r4.1, r4.2.1, r4.2.2.1, r4.2.2.2.1, r4.2.2.2.2.1, r4.2.2.2.2.2.1, r4.2.2.2.2.2.2)))
  else
  (some ((-3 : Int32), S, spW, spH, fr, codes, counts, chFound, chPage, chCol, chRow, chTurned, chFirst, chSecond, hLatest, hCount, H0, H1, H2, H3, H4))))
def f_X10_unplace (S : (Nat → Nat → Int32)) (cwidths : (Nat → Int32)) (cheights : (Nat → Int32)) (spW : Int32) (spH : Int32) (fr : (Nat → Int64)) (codes : (Nat → Int32)) (counts : (Nat → Int32)) (hLatest : Int32) (hCount : Int32) (H0 : (Nat → Nat → Int32)) (H1 : (Nat → Nat → Int32)) (H2 : (Nat → Nat → Int32)) (H3 : (Nat → Nat → Int32)) (H4 : (Nat → Nat → Int32)) (i1 : Int32) : Option (Int32 × (Nat → Nat → Int32) × Int32 × Int32 × (Nat → Int64) × (Nat → Int32) × (Nat → Int32) × Int32 × Int32 × (Nat → Nat → Int32) × (Nat → Nat → Int32) × (Nat → Nat → Int32) × (Nat → Nat → Int32) × (Nat → Nat → Int32)) :=
  if (f_X6_has (S 0 0) i1) = 0 then
  (some ((-1 : Int32), S, spW, spH, fr, codes, counts, hLatest, hCount, H0, H1, H2, H3, H4))
  else
  (g_rd (S 8) 24 i1 fun x1 =>
  if x1 = (-4 : Int32) then
  (some ((-3 : Int32), S, spW, spH, fr, codes, counts, hLatest, hCount, H0, H1, H2, H3, H4))
  else
  ((f_X2_record hLatest hCount H0 H1 H2 H3 H4 S).bind fun r2 =>
  g_wr (S 8) 24 i1 (-4 : Int32) fun f3 =>
  (f_X3_survey fr codes counts (updC S 8 f3) cwidths cheights x1).bind fun r4 =>
  some (x1, (updC S 8 f3), r4.1, r4.2.1, r4.2.2.1, r4.2.2.2.1, r4.2.2.2.2, r2.1, r2.2.1, r2.2.2.1, r2.2.2.2.1, r2.2.2.2.2.1, r2.2.2.2.2.2.1, r2.2.2.2.2.2.2)))
def f_X10_studyAll_L23 (S : Nat → Nat → Int32) (r1 : (Nat → Int32) × (Nat → Int32) × (Nat → Int32) × (Nat → Int32) × (Nat → Int32) × (Nat → Int32)) : Nat → Int32 → Int32 → Int32 → (Nat → Int64) → (Nat → Int32) → (Nat → Int32) → Option ((Nat → Int32) × (Nat → Int32) × (Nat → Int32) × (Nat → Int32) × (Nat → Int32) × (Nat → Int32) × Int32 × Int32 × (Nat → Int64) × (Nat → Int32) × (Nat → Int32))
  | 0, _, _, _, _, _, _ => none
  | n+1, x2, x3, x4, f5, f6, f7 =>
  if (S 6 0) ≤ x2 then
  (some (r1.1, r1.2.1, r1.2.2.1, r1.2.2.2.1, r1.2.2.2.2.1, r1.2.2.2.2.2, x3, x4, f5, f6, f7))
  else
  ((f_X3_survey f5 f6 f7 S r1.2.2.1 r1.2.2.2.1 x2).bind fun r8 =>
  g_bd (x2 + 1) fun x9 =>
  f_X10_studyAll_L23 S r1 n x9 r8.1 r8.2.1 r8.2.2.1 r8.2.2.2.1 r8.2.2.2.2)
def f_X10_studyAll (S : (Nat → Nat → Int32)) (lefts : (Nat → Int32)) (tops : (Nat → Int32)) (cwidths : (Nat → Int32)) (cheights : (Nat → Int32)) (originals : (Nat → Int32)) (orients : (Nat → Int32)) (spW : Int32) (spH : Int32) (fr : (Nat → Int64)) (codes : (Nat → Int32)) (counts : (Nat → Int32)) : Option ((Nat → Int32) × (Nat → Int32) × (Nat → Int32) × (Nat → Int32) × (Nat → Int32) × (Nat → Int32) × Int32 × Int32 × (Nat → Int64) × (Nat → Int32) × (Nat → Int32)) :=
  (f_X0_study lefts tops cwidths cheights originals orients (S 0 0) (S 1) (S 2) (S 4) (S 5 6) (S 5 7)).bind fun r1 =>
  f_X10_studyAll_L23 S r1 g_fuel (0 : Int32) spW spH fr codes counts
def f_X10_undo (S : (Nat → Nat → Int32)) (lefts : (Nat → Int32)) (tops : (Nat → Int32)) (cwidths : (Nat → Int32)) (cheights : (Nat → Int32)) (originals : (Nat → Int32)) (orients : (Nat → Int32)) (spW : Int32) (spH : Int32) (fr : (Nat → Int64)) (codes : (Nat → Int32)) (counts : (Nat → Int32)) (hLatest : Int32) (hCount : Int32) (H0 : (Nat → Nat → Int32)) (H1 : (Nat → Nat → Int32)) (H2 : (Nat → Nat → Int32)) (H3 : (Nat → Nat → Int32)) (H4 : (Nat → Nat → Int32)) : Option (Int32 × (Nat → Nat → Int32) × (Nat → Int32) × (Nat → Int32) × (Nat → Int32) × (Nat → Int32) × (Nat → Int32) × (Nat → Int32) × Int32 × Int32 × (Nat → Int64) × (Nat → Int32) × (Nat → Int32) × Int32 × Int32) :=
  if hCount = 0 then
  (some ((-3 : Int32), S, lefts, tops, cwidths, cheights, originals, orients, spW, spH, fr, codes, counts, hLatest, hCount))
  else
  ((f_X2_takeBack hLatest hCount H0 H1 H2 H3 H4 S).bind fun r1 =>
  (f_X10_studyAll r1.2.2 lefts tops cwidths cheights originals orients spW spH fr codes counts).bind fun r2 =>
  some (r1.2.1, r1.2.2, r2.1, r2.2.1, r2.2.2.1, r2.2.2.2.1, r2.2.2.2.2.1, r2.2.2.2.2.2.1, r2.2.2.2.2.2.2.1, r2.2.2.2.2.2.2.2.1, r2.2.2.2.2.2.2.2.2.1, r2.2.2.2.2.2.2.2.2.2.1, r2.2.2.2.2.2.2.2.2.2.2, r1.1, r1.2.1))
def f_X10_placeOf (S : (Nat → Nat → Int32)) (cwidths : (Nat → Int32)) (originals : (Nat → Int32)) (i1 : Int32) : Option (Int32) :=
  (f_X0_sourceOf cwidths originals i1).bind fun r1 =>
  if r1 = (-4 : Int32) then
  (some (-4 : Int32))
  else
  (g_rd (S 8) 24 r1 fun x2 =>
  some x2)
def f_X10_pageOf (S : (Nat → Nat → Int32)) (cwidths : (Nat → Int32)) (originals : (Nat → Int32)) (i1 : Int32) : Option (Int32) :=
  if (f_X6_has (S 0 0) i1) = 0 then
  (some (-1 : Int32))
  else
  ((f_X10_placeOf S cwidths originals i1).bind fun r1 =>
  some r1)
def f_X10_xOf (S : (Nat → Nat → Int32)) (cwidths : (Nat → Int32)) (originals : (Nat → Int32)) (i1 : Int32) : Option (Int32) :=
  if (f_X6_has (S 0 0) i1) = 0 then
  (some (-1 : Int32))
  else
  ((f_X10_placeOf S cwidths originals i1).bind fun r1 =>
  if r1 = (-4 : Int32) then
  (some (-4 : Int32))
  else
  ((f_X0_sourceOf cwidths originals i1).bind fun r2 =>
  (f_X3_imageColumn S r2).bind fun r3 =>
  some r3))
def f_X10_yOf (S : (Nat → Nat → Int32)) (cwidths : (Nat → Int32)) (originals : (Nat → Int32)) (i1 : Int32) : Option (Int32) :=
  if (f_X6_has (S 0 0) i1) = 0 then
  (some (-1 : Int32))
  else
  ((f_X10_placeOf S cwidths originals i1).bind fun r1 =>
  if r1 = (-4 : Int32) then
  (some (-4 : Int32))
  else
  ((f_X0_sourceOf cwidths originals i1).bind fun r2 =>
  (f_X3_imageRow S r2).bind fun r3 =>
  some r3))
def f_X10_isTurned (S : (Nat → Nat → Int32)) (cwidths : (Nat → Int32)) (originals : (Nat → Int32)) (i1 : Int32) : Option (Int32) :=
  if (f_X6_has (S 0 0) i1) = 0 then
  (some (-1 : Int32))
  else
  ((f_X10_placeOf S cwidths originals i1).bind fun r1 =>
  if r1 = (-4 : Int32) then
  (some (-4 : Int32))
  else
  ((f_X0_sourceOf cwidths originals i1).bind fun r2 =>
  g_rd (S 11) 24 r2 fun x3 =>
  some (f_X10_asNumber x3)))
def f_X10_recordOf (S : (Nat → Nat → Int32)) (lefts : (Nat → Int32)) (tops : (Nat → Int32)) (cwidths : (Nat → Int32)) (cheights : (Nat → Int32)) (originals : (Nat → Int32)) (i1 : Int32) : Option (Int32) :=
  if (f_X6_has (S 0 0) i1) = 0 then
  (some (-1 : Int32))
  else
  ((f_X10_placeOf S cwidths originals i1).bind fun r1 =>
  if r1 = (-4 : Int32) then
  (some (-4 : Int32))
  else
  ((f_X0_sourceOf cwidths originals i1).bind fun r2 =>
  g_rd (S 11) 24 r2 fun x3 =>
  (f_X0_findRecord lefts tops cwidths cheights (S 4) i1 r2 x3).bind fun r4 =>
  some r4))
def f_X10_pages (S : (Nat → Nat → Int32)) : Int32 :=
  (S 6 0)
def f_X10_hasPage (S : (Nat → Nat → Int32)) (i1 : Int32) : Option (Int32) :=
  g_bd (f_X10_isWithin i1 (0 : Int32) ((S 6 0) - (1 : Int32))) fun x1 =>
  g_z x1 <|
  some x1
def f_X10_hasPagePixel (S : (Nat → Nat → Int32)) (i1 : Int32) (i2 : Int32) (i3 : Int32) : Option (Int32) :=
  (f_X10_hasPage S i1).bind fun r1 =>
  if r1 = 0 then
  (some (0 : Int32))
  else
  (if (f_X10_isWithin i2 (0 : Int32) ((S 5 0) - (1 : Int32))) = 0 then
  (some (0 : Int32))
  else
  (if (f_X10_isWithin i3 (0 : Int32) ((S 5 1) - (1 : Int32))) = 0 then
  (some (0 : Int32))
  else
  (some (1 : Int32))))
def f_X10_pixel (S : (Nat → Nat → Int32)) (lefts : (Nat → Int32)) (tops : (Nat → Int32)) (cwidths : (Nat → Int32)) (cheights : (Nat → Int32)) (i1 : Int32) (i2 : Int32) (i3 : Int32) : Option (Int32) :=
  (f_X10_hasPagePixel S i1 i2 i3).bind fun r1 =>
  if r1 = 0 then
  (some (-1 : Int32))
  else
  ((f_X3_colorOn S lefts tops cwidths cheights i1 i2 i3).bind fun r2 =>
  some r2)
def f_X10_spriteAt (S : (Nat → Nat → Int32)) (cwidths : (Nat → Int32)) (cheights : (Nat → Int32)) (i1 : Int32) (i2 : Int32) (i3 : Int32) : Option (Int32) :=
  (f_X10_hasPagePixel S i1 i2 i3).bind fun r1 =>
  if r1 = 0 then
  (some (-1 : Int32))
  else
  ((f_X3_ownerOf S cwidths cheights i1 i2 i3).bind fun r2 =>
  some r2)
def f_X10_usedWidth (S : (Nat → Nat → Int32)) (cwidths : (Nat → Int32)) (cheights : (Nat → Int32)) (i1 : Int32) : Option (Int32) :=
  (f_X10_hasPage S i1).bind fun r1 =>
  if r1 = 0 then
  (some (-1 : Int32))
  else
  ((f_X3_usedColumns S cwidths cheights i1).bind fun r2 =>
  some r2)
def f_X10_usedHeight (S : (Nat → Nat → Int32)) (cwidths : (Nat → Int32)) (cheights : (Nat → Int32)) (i1 : Int32) : Option (Int32) :=
  (f_X10_hasPage S i1).bind fun r1 =>
  if r1 = 0 then
  (some (-1 : Int32))
  else
  ((f_X3_usedRows S cwidths cheights i1).bind fun r2 =>
  some r2)
def f_X10_freeRectangles (S : (Nat → Nat → Int32)) (counts : (Nat → Int32)) (i1 : Int32) : Option (Int32) :=
  (f_X10_hasPage S i1).bind fun r1 =>
  if r1 = 0 then
  (some (-1 : Int32))
  else
  (g_rd counts 4 i1 fun x2 =>
  some x2)
def f_X10_hasFree (S : (Nat → Nat → Int32)) (counts : (Nat → Int32)) (i1 : Int32) (i2 : Int32) : Option (Int32) :=
  (f_X10_hasPage S i1).bind fun r1 =>
  if r1 = 0 then
  (some (0 : Int32))
  else
  (g_rd counts 4 i1 fun x2 =>
  if (f_X10_isWithin i2 (0 : Int32) (x2 - (1 : Int32))) = 0 then
  (some (0 : Int32))
  else
  (some (1 : Int32)))
def f_X10_freeX (S : (Nat → Nat → Int32)) (codes : (Nat → Int32)) (counts : (Nat → Int32)) (i1 : Int32) (i2 : Int32) : Option (Int32) :=
  (f_X10_hasFree S counts i1 i2).bind fun r1 =>
  if r1 = 0 then
  (some (-1 : Int32))
  else
  ((f_X7_codeOf codes i1 i2).bind fun r2 =>
  some (f_X7_leftIn r2))
def f_X10_freeY (S : (Nat → Nat → Int32)) (codes : (Nat → Int32)) (counts : (Nat → Int32)) (i1 : Int32) (i2 : Int32) : Option (Int32) :=
  (f_X10_hasFree S counts i1 i2).bind fun r1 =>
  if r1 = 0 then
  (some (-1 : Int32))
  else
  ((f_X7_codeOf codes i1 i2).bind fun r2 =>
  some (f_X7_topIn r2))
def f_X10_freeWidth (S : (Nat → Nat → Int32)) (codes : (Nat → Int32)) (counts : (Nat → Int32)) (i1 : Int32) (i2 : Int32) : Option (Int32) :=
  (f_X10_hasFree S counts i1 i2).bind fun r1 =>
  if r1 = 0 then
  (some (-1 : Int32))
  else
  ((f_X7_codeOf codes i1 i2).bind fun r2 =>
  some (f_X7_widthIn r2))
def f_X10_freeHeight (S : (Nat → Nat → Int32)) (codes : (Nat → Int32)) (counts : (Nat → Int32)) (i1 : Int32) (i2 : Int32) : Option (Int32) :=
  (f_X10_hasFree S counts i1 i2).bind fun r1 =>
  if r1 = 0 then
  (some (-1 : Int32))
  else
  ((f_X7_codeOf codes i1 i2).bind fun r2 =>
  some (f_X7_heightIn r2))
def f_X10_commonDivisor_L7 (k34_1 : Int32 → Option (Int32)) : Nat → Int32 → Int32 → Int32 → Option (Int32)
  | 0, _, _, _ => none
  | n+1, x3, x4, x5 =>
  if (64 : Int32) ≤ x5 then
  (k34_1 x3)
  else
  (if x4 ≤ 0 then
  (k34_1 x3)
  else
  (g_nz x4 <|
  g_bd (g_rem x3 x4) fun x7 =>
  g_bd (x5 + 1) fun x8 =>
  f_X10_commonDivisor_L7 k34_1 n x4 x7 x8))
def f_X10_commonDivisor (i1 : Int32) (i2 : Int32) : Option (Int32) :=
  g_jn (fun (x1 : Int32) =>
  some (g_max x1 (1 : Int32))) fun k34_1 =>
  f_X10_commonDivisor_L7 k34_1 g_fuel i1 i2 (0 : Int32)
def f_X10_fill (S : (Nat → Nat → Int32)) (cwidths : (Nat → Int32)) (cheights : (Nat → Int32)) (i1 : Int32) (i2 : Int32) : Option (Int32) :=
  (f_X10_hasPage S i1).bind fun r1 =>
  if r1 = 0 then
  (some (-1 : Int32))
  else
  ((f_X3_imagePixels S cwidths cheights i1).bind fun r2 =>
  g_bd ((S 5 0) * (S 5 1)) fun x3 =>
  (f_X10_commonDivisor x3 r2).bind fun r4 =>
  g_bd (if i2 = 0 then r2 else x3) fun x5 =>
  g_nz r4 <|
  some (x5 / r4))
def f_X10_unplaced_L4 (S : Nat → Nat → Int32) (cwidths : (Nat → Int32)) (originals : (Nat → Int32)) : Nat → Int32 → Int32 → Option (Int32)
  | 0, _, _ => none
  | n+1, x1, x2 =>
  if (S 0 0) ≤ x2 then
  (some x1)
  else
  ((f_X0_isOriginal cwidths originals x2).bind fun r3 =>
  g_jn (fun (x4 : Int32) =>
  g_bd (x2 + 1) fun x6 =>
  f_X10_unplaced_L4 S cwidths originals n x4 x6) fun j49_4 =>
  if r3 = 0 then
  (j49_4 x1)
  else
  (g_rd (S 8) 24 x2 fun x7 =>
  if x7 = (-4 : Int32) then
  (g_bd (x1 + 1) fun x8 =>
  j49_4 x8)
  else
  (j49_4 x1)))
def f_X10_unplaced (S : (Nat → Nat → Int32)) (cwidths : (Nat → Int32)) (originals : (Nat → Int32)) : Option (Int32) :=
  f_X10_unplaced_L4 S cwidths originals g_fuel (0 : Int32) (0 : Int32)
def f_X10_pageBound (S : (Nat → Nat → Int32)) (cwidths : (Nat → Int32)) (cheights : (Nat → Int32)) (originals : (Nat → Int32)) : Option (Int32) :=
  (f_X3_boxPositions S cwidths cheights originals).bind fun r1 =>
  if r1 = 0 then
  (some (0 : Int32))
  else
  (g_bd (f_X5_fieldPositions (S 5 0) (S 5 1) (S 5 3) (S 5 4)) fun x2 =>
  if x2 = 0 then
  (some (-4 : Int32))
  else
  (g_nz x2 <|
  some (((r1 + x2) - (1 : Int32)) / x2)))
def f_X10_packingCost_L5 (ST : Nat → Nat → Int32) (cwidths : (Nat → Int32)) (cheights : (Nat → Int32)) (k49_1 : Int64 → Option (Int64)) : Nat → Int64 → Int32 → Option (Int64)
  | 0, _, _ => none
  | n+1, y3, x4 =>
  if (ST 6 0) ≤ x4 then
  (k49_1 y3)
  else
  ((f_X3_usedColumns ST cwidths cheights x4).bind fun r5 =>
  (f_X3_usedRows ST cwidths cheights x4).bind fun r6 =>
  g_bd (y3 + (r5 * r6).toInt64) fun y7 =>
  g_bd (x4 + 1) fun x8 =>
  f_X10_packingCost_L5 ST cwidths cheights k49_1 n y7 x8)
def f_X10_packingCost (ST : (Nat → Nat → Int32)) (cwidths : (Nat → Int32)) (cheights : (Nat → Int32)) (i1 : Int32) : Option (Int64) :=
  g_jn (fun (y1 : Int64) =>
  some (((((i1).toInt64 * (10 : Int64)) + (ST 6 0).toInt64) * (10000 : Int64)) + y1)) fun k49_1 =>
  f_X10_packingCost_L5 ST cwidths cheights k49_1 g_fuel (0 : Int64) (0 : Int32)
def f_X10_bestMethod_L29 (cwidths : (Nat → Int32)) (cheights : (Nat → Int32)) (originals : (Nat → Int32)) (r1 : (Nat → Nat → Int32)) (x4 : Int32) (k97_34 : Int32 → Int64 → (Nat → Nat → Int32) → Int32 → Int32 → (Nat → Int64) → (Nat → Int32) → (Nat → Int32) → Int32 → Int32 → Int32 → Int32 → Int32 → Int32 → Int32 → (Nat → Int32) → Option (Int32 × (Nat → Nat → Int32) × Int32 × Int32 × (Nat → Int64) × (Nat → Int32) × (Nat → Int32) × Int32 × Int32 × Int32 × Int32 × Int32 × Int32 × Int32 × (Nat → Int32))) : Nat → Int32 → Int64 → Int32 → (Nat → Nat → Int32) → Int32 → Int32 → (Nat → Int64) → (Nat → Int32) → (Nat → Int32) → Int32 → Int32 → Int32 → Int32 → Int32 → Int32 → Int32 → (Nat → Int32) → Option (Int32 × (Nat → Nat → Int32) × Int32 × Int32 × (Nat → Int64) × (Nat → Int32) × (Nat → Int32) × Int32 × Int32 × Int32 × Int32 × Int32 × Int32 × Int32 × (Nat → Int32))
  | 0, _, _, _, _, _, _, _, _, _, _, _, _, _, _, _, _, _ => none
  | n+1, x37, y38, x39, S40, x41, x42, f43, f44, f45, x46, x47, x48, x49, x50, x51, x52, f53 =>
  if (3 : Int32) < x39 then
  (k97_34 x37 y38 (updC (updC (updC (updC (updC (updC (updC r1 5 (upd (upd (r1 5) 10 (S40 5 10)) 11 (S40 5 11))) 6 (upd (r1 6) 0 (S40 6 0))) 7 (S40 7)) 8 (S40 8)) 9 (S40 9)) 10 (S40 10)) 11 (S40 11)) x41 x42 f43 f44 f45 x46 x47 x48 x49 x50 x51 x52 f53)
  else
  ((f_X3_placeAll x41 x42 f43 f44 f45 x46 x47 x48 x49 x50 x51 x52 f53 (updC (updC (updC (updC (updC (updC (updC r1 5 (upd (upd (r1 5) 10 x4) 11 x39)) 6 (upd (r1 6) 0 (S40 6 0))) 7 (S40 7)) 8 (S40 8)) 9 (S40 9)) 10 (S40 10)) 11 (S40 11)) cwidths cheights originals).bind fun r54 =>
  (f_X10_packingCost (updC (updC (updC (updC (updC (updC (updC r1 5 (upd (upd (r1 5) 10 x4) 11 x39)) 6 (upd (r1 6) 0 (r54.2.2.2.2.2.2.2.2.2.2.2.2.2.2 6 0))) 7 (r54.2.2.2.2.2.2.2.2.2.2.2.2.2.2 7)) 8 (r54.2.2.2.2.2.2.2.2.2.2.2.2.2.2 8)) 9 (r54.2.2.2.2.2.2.2.2.2.2.2.2.2.2 9)) 10 (r54.2.2.2.2.2.2.2.2.2.2.2.2.2.2 10)) 11 (r54.2.2.2.2.2.2.2.2.2.2.2.2.2.2 11)) cwidths cheights r54.1).bind fun r55 =>
  g_jn (fun (x56 : Int32) (y57 : Int64) =>
  g_bd (x39 + 1) fun x59 =>
  f_X10_bestMethod_L29 cwidths cheights originals r1 x4 k97_34 n x56 y57 x59 (updC (updC (updC (updC (updC (updC (updC r1 5 (upd (upd (r1 5) 10 x4) 11 x39)) 6 (upd (r1 6) 0 (r54.2.2.2.2.2.2.2.2.2.2.2.2.2.2 6 0))) 7 (r54.2.2.2.2.2.2.2.2.2.2.2.2.2.2 7)) 8 (r54.2.2.2.2.2.2.2.2.2.2.2.2.2.2 8)) 9 (r54.2.2.2.2.2.2.2.2.2.2.2.2.2.2 9)) 10 (r54.2.2.2.2.2.2.2.2.2.2.2.2.2.2 10)) 11 (r54.2.2.2.2.2.2.2.2.2.2.2.2.2.2 11)) r54.2.1 r54.2.2.1 r54.2.2.2.1 r54.2.2.2.2.1 r54.2.2.2.2.2.1 r54.2.2.2.2.2.2.1 r54.2.2.2.2.2.2.2.1 r54.2.2.2.2.2.2.2.2.1 r54.2.2.2.2.2.2.2.2.2.1 r54.2.2.2.2.2.2.2.2.2.2.1 r54.2.2.2.2.2.2.2.2.2.2.2.1 r54.2.2.2.2.2.2.2.2.2.2.2.2.1 r54.2.2.2.2.2.2.2.2.2.2.2.2.2.1) fun j91_57 =>
  if 0 ≤ (lg_cmp r55 y38) then
  (j91_57 x37 y38)
  else
  (g_bd (((10 : Int32) * x4) + x39) fun x60 =>
  j91_57 x60 r55))
def f_X10_bestMethod_L20 (cwidths : (Nat → Int32)) (cheights : (Nat → Int32)) (originals : (Nat → Int32)) (r1 : (Nat → Nat → Int32)) : Nat → Int32 → Int64 → Int32 → (Nat → Nat → Int32) → Int32 → Int32 → (Nat → Int64) → (Nat → Int32) → (Nat → Int32) → Int32 → Int32 → Int32 → Int32 → Int32 → Int32 → Int32 → (Nat → Int32) → Option (Int32 × (Nat → Nat → Int32) × Int32 × Int32 × (Nat → Int64) × (Nat → Int32) × (Nat → Int32) × Int32 × Int32 × Int32 × Int32 × Int32 × Int32 × Int32 × (Nat → Int32))
  | 0, _, _, _, _, _, _, _, _, _, _, _, _, _, _, _, _, _ => none
  | n+1, x2, y3, x4, S5, x6, x7, f8, f9, f10, x11, x12, x13, x14, x15, x16, x17, f18 =>
  if (3 : Int32) < x4 then
  (some (x2, (updC (updC (updC (updC (updC (updC (updC r1 5 (upd (upd (r1 5) 10 (S5 5 10)) 11 (S5 5 11))) 6 (upd (r1 6) 0 (S5 6 0))) 7 (S5 7)) 8 (S5 8)) 9 (S5 9)) 10 (S5 10)) 11 (S5 11)), x6, x7, f8, f9, f10, x11, x12, x13, x14, x15, x16, x17, f18))
  else
  (g_jn (fun (x19 : Int32) (y20 : Int64) (S21 : Nat → Nat → Int32) (x22 : Int32) (x23 : Int32) (f24 : Nat → Int64) (f25 : Nat → Int32) (f26 : Nat → Int32) (x27 : Int32) (x28 : Int32) (x29 : Int32) (x30 : Int32) (x31 : Int32) (x32 : Int32) (x33 : Int32) (f34 : Nat → Int32) =>
  g_bd (x4 + 1) fun x36 =>
  f_X10_bestMethod_L20 cwidths cheights originals r1 n x19 y20 x36 (updC (updC (updC (updC (updC (updC (updC r1 5 (upd (upd (r1 5) 10 (S21 5 10)) 11 (S21 5 11))) 6 (upd (r1 6) 0 (S21 6 0))) 7 (S21 7)) 8 (S21 8)) 9 (S21 9)) 10 (S21 10)) 11 (S21 11)) x22 x23 f24 f25 f26 x27 x28 x29 x30 x31 x32 x33 f34) fun k97_34 =>
  f_X10_bestMethod_L29 cwidths cheights originals r1 x4 k97_34 g_fuel x2 y3 (0 : Int32) (updC (updC (updC (updC (updC (updC (updC r1 5 (upd (upd (r1 5) 10 (S5 5 10)) 11 (S5 5 11))) 6 (upd (r1 6) 0 (S5 6 0))) 7 (S5 7)) 8 (S5 8)) 9 (S5 9)) 10 (S5 10)) 11 (S5 11)) x6 x7 f8 f9 f10 x11 x12 x13 x14 x15 x16 x17 f18)
def f_X10_bestMethod (S : (Nat → Nat → Int32)) (ST : (Nat → Nat → Int32)) (cwidths : (Nat → Int32)) (cheights : (Nat → Int32)) (originals : (Nat → Int32)) (spWT : Int32) (spHT : Int32) (frT : (Nat → Int64)) (codesT : (Nat → Int32)) (countsT : (Nat → Int32)) (chFoundT : Int32) (chPageT : Int32) (chColT : Int32) (chRowT : Int32) (chTurnedT : Int32) (chFirstT : Int32) (chSecondT : Int32) (lineT : (Nat → Int32)) : Option (Int32 × (Nat → Nat → Int32) × Int32 × Int32 × (Nat → Int64) × (Nat → Int32) × (Nat → Int32) × Int32 × Int32 × Int32 × Int32 × Int32 × Int32 × Int32 × (Nat → Int32)) :=
  (f_X8_copyFrom ST S).bind fun r1 =>
  f_X10_bestMethod_L20 cwidths cheights originals r1 g_fuel (0 : Int32) (1000000000 : Int64) (0 : Int32) r1 spWT spHT frT codesT countsT chFoundT chPageT chColT chRowT chTurnedT chFirstT chSecondT lineT
def f_X10_smallestPage_L35 (cwidths : (Nat → Int32)) (cheights : (Nat → Int32)) (originals : (Nat → Int32)) (r1 : (Nat → Nat → Int32)) : Nat → Int32 → (Nat → Nat → Int32) → Int32 → Int32 → (Nat → Int64) → (Nat → Int32) → (Nat → Int32) → Int32 → Int32 → Int32 → Int32 → Int32 → Int32 → Int32 → (Nat → Int32) → Option (Int32 × (Nat → Nat → Int32) × Int32 × Int32 × (Nat → Int64) × (Nat → Int32) × (Nat → Int32) × Int32 × Int32 × Int32 × Int32 × Int32 × Int32 × Int32 × (Nat → Int32))
  | 0, _, _, _, _, _, _, _, _, _, _, _, _, _, _, _ => none
  | n+1, x2, S3, x4, x5, f6, f7, f8, x9, x10, x11, x12, x13, x14, x15, f16 =>
  if (32 : Int32) < x2 then
  (some ((-4 : Int32), (updC (updC (updC (updC (updC (updC (updC r1 5 (upd (upd (upd (upd (r1 5) 0 (S3 5 0)) 1 (S3 5 1)) 2 (1 : Int32)) 9 (0 : Int32))) 6 (upd (r1 6) 0 (S3 6 0))) 7 (S3 7)) 8 (S3 8)) 9 (S3 9)) 10 (S3 10)) 11 (S3 11)), x4, x5, f6, f7, f8, x9, x10, x11, x12, x13, x14, x15, f16))
  else
  ((f_X3_placeAll x4 x5 f6 f7 f8 x9 x10 x11 x12 x13 x14 x15 f16 (updC (updC (updC (updC (updC (updC (updC r1 5 (upd (upd (upd (upd (r1 5) 0 x2) 1 x2) 2 (1 : Int32)) 9 (0 : Int32))) 6 (upd (r1 6) 0 (S3 6 0))) 7 (S3 7)) 8 (S3 8)) 9 (S3 9)) 10 (S3 10)) 11 (S3 11)) cwidths cheights originals).bind fun r17 =>
  if r17.1 = 0 then
  (some (x2, (updC (updC (updC (updC (updC (updC (updC r1 5 (upd (upd (upd (upd (r1 5) 0 x2) 1 x2) 2 (1 : Int32)) 9 (0 : Int32))) 6 (upd (r1 6) 0 (r17.2.2.2.2.2.2.2.2.2.2.2.2.2.2 6 0))) 7 (r17.2.2.2.2.2.2.2.2.2.2.2.2.2.2 7)) 8 (r17.2.2.2.2.2.2.2.2.2.2.2.2.2.2 8)) 9 (r17.2.2.2.2.2.2.2.2.2.2.2.2.2.2 9)) 10 (r17.2.2.2.2.2.2.2.2.2.2.2.2.2.2 10)) 11 (r17.2.2.2.2.2.2.2.2.2.2.2.2.2.2 11)), r17.2.1, r17.2.2.1, r17.2.2.2.1, r17.2.2.2.2.1, r17.2.2.2.2.2.1, r17.2.2.2.2.2.2.1, r17.2.2.2.2.2.2.2.1, r17.2.2.2.2.2.2.2.2.1, r17.2.2.2.2.2.2.2.2.2.1, r17.2.2.2.2.2.2.2.2.2.2.1, r17.2.2.2.2.2.2.2.2.2.2.2.1, r17.2.2.2.2.2.2.2.2.2.2.2.2.1, r17.2.2.2.2.2.2.2.2.2.2.2.2.2.1))
  else
  (g_bd (x2 + 1) fun x18 =>
  f_X10_smallestPage_L35 cwidths cheights originals r1 n x18 (updC (updC (updC (updC (updC (updC (updC r1 5 (upd (upd (upd (upd (r1 5) 0 x2) 1 x2) 2 (1 : Int32)) 9 (0 : Int32))) 6 (upd (r1 6) 0 (r17.2.2.2.2.2.2.2.2.2.2.2.2.2.2 6 0))) 7 (r17.2.2.2.2.2.2.2.2.2.2.2.2.2.2 7)) 8 (r17.2.2.2.2.2.2.2.2.2.2.2.2.2.2 8)) 9 (r17.2.2.2.2.2.2.2.2.2.2.2.2.2.2 9)) 10 (r17.2.2.2.2.2.2.2.2.2.2.2.2.2.2 10)) 11 (r17.2.2.2.2.2.2.2.2.2.2.2.2.2.2 11)) r17.2.1 r17.2.2.1 r17.2.2.2.1 r17.2.2.2.2.1 r17.2.2.2.2.2.1 r17.2.2.2.2.2.2.1 r17.2.2.2.2.2.2.2.1 r17.2.2.2.2.2.2.2.2.1 r17.2.2.2.2.2.2.2.2.2.1 r17.2.2.2.2.2.2.2.2.2.2.1 r17.2.2.2.2.2.2.2.2.2.2.2.1 r17.2.2.2.2.2.2.2.2.2.2.2.2.1 r17.2.2.2.2.2.2.2.2.2.2.2.2.2.1))
def f_X10_smallestPage (S : (Nat → Nat → Int32)) (ST : (Nat → Nat → Int32)) (cwidths : (Nat → Int32)) (cheights : (Nat → Int32)) (originals : (Nat → Int32)) (spWT : Int32) (spHT : Int32) (frT : (Nat → Int64)) (codesT : (Nat → Int32)) (countsT : (Nat → Int32)) (chFoundT : Int32) (chPageT : Int32) (chColT : Int32) (chRowT : Int32) (chTurnedT : Int32) (chFirstT : Int32) (chSecondT : Int32) (lineT : (Nat → Int32)) : Option (Int32 × (Nat → Nat → Int32) × Int32 × Int32 × (Nat → Int64) × (Nat → Int32) × (Nat → Int32) × Int32 × Int32 × Int32 × Int32 × Int32 × Int32 × Int32 × (Nat → Int32)) :=
  (f_X8_copyFrom ST S).bind fun r1 =>
  f_X10_smallestPage_L35 cwidths cheights originals r1 g_fuel (4 : Int32) (updC r1 5 (upd (upd (r1 5) 2 (1 : Int32)) 9 (0 : Int32))) spWT spHT frT codesT countsT chFoundT chPageT chColT chRowT chTurnedT chFirstT chSecondT lineT
def f_X10_keep (S : (Nat → Nat → Int32)) (SA : (Nat → Nat → Int32)) (SB : (Nat → Nat → Int32)) (slotFilled : (Nat → Int32)) (i1 : Int32) : Option (Int32 × (Nat → Nat → Int32) × (Nat → Nat → Int32) × (Nat → Int32)) :=
  if (f_X10_isWithin i1 (0 : Int32) (1 : Int32)) = 0 then
  (some ((-1 : Int32), SA, SB, slotFilled))
  else
  (if i1 = 0 then
  ((f_X8_copyFrom SA S).bind fun r1 =>
  g_wrZ slotFilled 2 i1 (1 : Int32) fun f2 =>
  some ((S 0 0), r1, SB, f2))
  else
  ((f_X8_copyFrom SB S).bind fun r3 =>
  g_wrZ slotFilled 2 i1 (1 : Int32) fun f4 =>
  some ((S 0 0), SA, r3, f4)))
def f_X10_restore (S : (Nat → Nat → Int32)) (lefts : (Nat → Int32)) (tops : (Nat → Int32)) (cwidths : (Nat → Int32)) (cheights : (Nat → Int32)) (originals : (Nat → Int32)) (orients : (Nat → Int32)) (spW : Int32) (spH : Int32) (fr : (Nat → Int64)) (codes : (Nat → Int32)) (counts : (Nat → Int32)) (hCount : Int32) (SA : (Nat → Nat → Int32)) (SB : (Nat → Nat → Int32)) (slotFilled : (Nat → Int32)) (i1 : Int32) : Option (Int32 × (Nat → Nat → Int32) × (Nat → Int32) × (Nat → Int32) × (Nat → Int32) × (Nat → Int32) × (Nat → Int32) × (Nat → Int32) × Int32 × Int32 × (Nat → Int64) × (Nat → Int32) × (Nat → Int32) × Int32) :=
  if (f_X10_isWithin i1 (0 : Int32) (1 : Int32)) = 0 then
  (some ((-1 : Int32), S, lefts, tops, cwidths, cheights, originals, orients, spW, spH, fr, codes, counts, hCount))
  else
  (g_rd slotFilled 2 i1 fun x1 =>
  if x1 = 0 then
  (some ((-3 : Int32), S, lefts, tops, cwidths, cheights, originals, orients, spW, spH, fr, codes, counts, hCount))
  else
  (if i1 = 0 then
  ((f_X8_copyFrom S SA).bind fun r2 =>
  (f_X10_studyAll r2 lefts tops cwidths cheights originals orients spW spH fr codes counts).bind fun r3 =>
  some ((r2 0 0), r2, r3.1, r3.2.1, r3.2.2.1, r3.2.2.2.1, r3.2.2.2.2.1, r3.2.2.2.2.2.1, r3.2.2.2.2.2.2.1, r3.2.2.2.2.2.2.2.1, r3.2.2.2.2.2.2.2.2.1, r3.2.2.2.2.2.2.2.2.2.1, r3.2.2.2.2.2.2.2.2.2.2, (0 : Int32)))
  else
  ((f_X8_copyFrom S SB).bind fun r4 =>
  (f_X10_studyAll r4 lefts tops cwidths cheights originals orients spW spH fr codes counts).bind fun r5 =>
  some ((r4 0 0), r4, r5.1, r5.2.1, r5.2.2.1, r5.2.2.2.1, r5.2.2.2.2.1, r5.2.2.2.2.2.1, r5.2.2.2.2.2.2.1, r5.2.2.2.2.2.2.2.1, r5.2.2.2.2.2.2.2.2.1, r5.2.2.2.2.2.2.2.2.2.1, r5.2.2.2.2.2.2.2.2.2.2, (0 : Int32)))))
def f_X10_mix (i1 : Int64) (i2 : Int64) : Int64 :=
  (((31 : Int64) * i1) + i2)
def f_X10_mixSprite_L37 (S : Nat → Nat → Int32) (i2 : Int32) (x24 : Int32) (k70_26 : Int64 → Option (Int64)) : Nat → Int64 → Int32 → Option (Int64)
  | 0, _, _ => none
  | n+1, y29, x30 =>
  (f_X10_width S i2).bind fun r31 =>
  if r31 ≤ x30 then
  (k70_26 y29)
  else
  ((f_X10_color S i2 x30 x24).bind fun r32 =>
  g_bd (f_X10_mix y29 (r32).toInt64) fun y33 =>
  g_bd (x30 + 1) fun x34 =>
  f_X10_mixSprite_L37 S i2 x24 k70_26 n y33 x34)
def f_X10_mixSprite_L24 (S : Nat → Nat → Int32) (i2 : Int32) (k76_4 : Int64 → Option (Int64)) : Nat → Int64 → Int32 → Option (Int64)
  | 0, _, _ => none
  | n+1, y23, x24 =>
  (f_X10_height S i2).bind fun r25 =>
  if r25 ≤ x24 then
  (k76_4 y23)
  else
  (g_jn (fun (y26 : Int64) =>
  g_bd (x24 + 1) fun x28 =>
  f_X10_mixSprite_L24 S i2 k76_4 n y26 x28) fun k70_26 =>
  f_X10_mixSprite_L37 S i2 x24 k70_26 g_fuel y23 (0 : Int32))
def f_X10_mixSprite (S : (Nat → Nat → Int32)) (lefts : (Nat → Int32)) (tops : (Nat → Int32)) (cwidths : (Nat → Int32)) (cheights : (Nat → Int32)) (originals : (Nat → Int32)) (orients : (Nat → Int32)) (i1 : Int64) (i2 : Int32) : Option (Int64) :=
  (f_X10_width S i2).bind fun r1 =>
  (f_X10_height S i2).bind fun r2 =>
  g_bd (f_X10_mix (f_X10_mix i1 (r1).toInt64) (r2).toInt64) fun y3 =>
  g_jn (fun (y4 : Int64) =>
  (f_X10_groupOf S i2).bind fun r6 =>
  g_bd (f_X10_mix y4 (r6).toInt64) fun y7 =>
  (f_X10_trimLeft S lefts i2).bind fun r8 =>
  (f_X10_trimTop S tops i2).bind fun r9 =>
  g_bd (f_X10_mix (f_X10_mix y7 (r8).toInt64) (r9).toInt64) fun y10 =>
  (f_X10_trimWidth S cwidths i2).bind fun r11 =>
  (f_X10_trimHeight S cheights i2).bind fun r12 =>
  g_bd (f_X10_mix (f_X10_mix y10 (r11).toInt64) (r12).toInt64) fun y13 =>
  (f_X10_originalOf S originals i2).bind fun r14 =>
  (f_X10_orientationOf S orients i2).bind fun r15 =>
  g_bd (f_X10_mix (f_X10_mix y13 (r14).toInt64) (r15).toInt64) fun y16 =>
  (f_X10_pageOf S cwidths originals i2).bind fun r17 =>
  (f_X10_xOf S cwidths originals i2).bind fun r18 =>
  (f_X10_yOf S cwidths originals i2).bind fun r19 =>
  g_bd (f_X10_mix (f_X10_mix (f_X10_mix y16 (r17).toInt64) (r18).toInt64) (r19).toInt64) fun y20 =>
  (f_X10_isTurned S cwidths originals i2).bind fun r21 =>
  (f_X10_recordOf S lefts tops cwidths cheights originals i2).bind fun r22 =>
  some (f_X10_mix (f_X10_mix y20 (r21).toInt64) (r22).toInt64)) fun k76_4 =>
  f_X10_mixSprite_L24 S i2 k76_4 g_fuel y3 (0 : Int32)
def f_X10_mixPage_L55 (S : Nat → Nat → Int32) (lefts : (Nat → Int32)) (tops : (Nat → Int32)) (cwidths : (Nat → Int32)) (cheights : (Nat → Int32)) (i2 : Int32) (x7 : Int32) (k96_8 : Int64 → Option (Int64)) : Nat → Int64 → Int32 → Option (Int64)
  | 0, _, _ => none
  | n+1, y11, x12 =>
  if (S 5 0) ≤ x12 then
  (k96_8 y11)
  else
  ((f_X3_colorOn S lefts tops cwidths cheights i2 x12 x7).bind fun r13 =>
  g_bd (f_X10_mix y11 (r13).toInt64) fun y14 =>
  g_bd (x12 + 1) fun x15 =>
  f_X10_mixPage_L55 S lefts tops cwidths cheights i2 x7 k96_8 n y14 x15)
def f_X10_mixPage_L37 (S : Nat → Nat → Int32) (lefts : (Nat → Int32)) (tops : (Nat → Int32)) (cwidths : (Nat → Int32)) (cheights : (Nat → Int32)) (i2 : Int32) : Nat → Int64 → Int32 → Option (Int64)
  | 0, _, _ => none
  | n+1, y6, x7 =>
  if (S 5 1) ≤ x7 then
  (some y6)
  else
  (g_jn (fun (y8 : Int64) =>
  g_bd (x7 + 1) fun x10 =>
  f_X10_mixPage_L37 S lefts tops cwidths cheights i2 n y8 x10) fun k96_8 =>
  f_X10_mixPage_L55 S lefts tops cwidths cheights i2 x7 k96_8 g_fuel y6 (0 : Int32))
def f_X10_mixPage (S : (Nat → Nat → Int32)) (lefts : (Nat → Int32)) (tops : (Nat → Int32)) (cwidths : (Nat → Int32)) (cheights : (Nat → Int32)) (counts : (Nat → Int32)) (i1 : Int64) (i2 : Int32) : Option (Int64) :=
  (f_X10_usedWidth S cwidths cheights i2).bind fun r1 =>
  (f_X10_usedHeight S cwidths cheights i2).bind fun r2 =>
  g_bd (f_X10_mix (f_X10_mix i1 (r1).toInt64) (r2).toInt64) fun y3 =>
  (f_X10_freeRectangles S counts i2).bind fun r4 =>
  g_bd (f_X10_mix y3 (r4).toInt64) fun y5 =>
  f_X10_mixPage_L37 S lefts tops cwidths cheights i2 g_fuel y5 (0 : Int32)
def f_X10_checksum_L65 (S : Nat → Nat → Int32) (lefts : (Nat → Int32)) (tops : (Nat → Int32)) (cwidths : (Nat → Int32)) (cheights : (Nat → Int32)) (counts : (Nat → Int32)) : Nat → Int64 → Int32 → Option (Int64)
  | 0, _, _ => none
  | n+1, y5, x6 =>
  if (S 6 0) ≤ x6 then
  (some y5)
  else
  ((f_X10_mixPage S lefts tops cwidths cheights counts y5 x6).bind fun r7 =>
  g_bd (x6 + 1) fun x8 =>
  f_X10_checksum_L65 S lefts tops cwidths cheights counts n r7 x8)
def f_X10_checksum_L20 (S : Nat → Nat → Int32) (lefts : (Nat → Int32)) (tops : (Nat → Int32)) (cwidths : (Nat → Int32)) (cheights : (Nat → Int32)) (originals : (Nat → Int32)) (orients : (Nat → Int32)) (k47_2 : Int64 → Option (Int64)) : Nat → Int64 → Int32 → Option (Int64)
  | 0, _, _ => none
  | n+1, y9, x10 =>
  if (S 0 0) ≤ x10 then
  (k47_2 y9)
  else
  ((f_X10_mixSprite S lefts tops cwidths cheights originals orients y9 x10).bind fun r11 =>
  g_bd (x10 + 1) fun x12 =>
  f_X10_checksum_L20 S lefts tops cwidths cheights originals orients k47_2 n r11 x12)
def f_X10_checksum (S : (Nat → Nat → Int32)) (lefts : (Nat → Int32)) (tops : (Nat → Int32)) (cwidths : (Nat → Int32)) (cheights : (Nat → Int32)) (originals : (Nat → Int32)) (orients : (Nat → Int32)) (counts : (Nat → Int32)) : Option (Int64) :=
  g_bd (f_X10_mix (19 : Int64) (S 0 0).toInt64) fun y1 =>
  g_jn (fun (y2 : Int64) =>
  g_bd (f_X10_mix y2 (S 6 0).toInt64) fun y4 =>
  f_X10_checksum_L65 S lefts tops cwidths cheights counts g_fuel y4 (0 : Int32)) fun k47_2 =>
  f_X10_checksum_L20 S lefts tops cwidths cheights originals orients k47_2 g_fuel y1 (0 : Int32)
def f_X11_in (i1 : Int32) (i2 : Int32) (i3 : Int32) : Int32 :=
  if i1 < i2 then
  ((0 : Int32))
  else
  (if i3 < i1 then
  ((0 : Int32))
  else
  ((1 : Int32)))
def f_X11_at (i1 : Int32) (i2 : Int32) : Int32 :=
  (((20 : Int32) + ((72 : Int32) * i1)) + i2)
def f_X11_pixelAt (i1 : Int32) (i2 : Int32) (i3 : Int32) : Int32 :=
  (((((20 : Int32) + ((72 : Int32) * i1)) + (8 : Int32)) + ((8 : Int32) * i3)) + i2)
def f_X11_isSprite (v : (Nat → Int32)) (i1 : Int32) : Option (Int32) :=
  g_rd v 1748 (0 : Int32) fun x1 =>
  g_bd (f_X11_in i1 (0 : Int32) (x1 - (1 : Int32))) fun x2 =>
  g_z x2 <|
  some x2
def f_X11_notes_L46 (v : (Nat → Int32)) (x1 : Int32) (k80_4 : (Nat → Int32) → Option (Int32 × (Nat → Int32))) : Nat → Int32 → (Nat → Int32) → Option (Int32 × (Nat → Int32))
  | 0, _, _ => none
  | n+1, x7, f8 =>
  if (1748 : Int32) ≤ x7 then
  (k80_4 f8)
  else
  (g_rd v 1748 x7 fun x9 =>
  g_wr f8 8740 (((1748 : Int32) * x1) + x7) x9 fun f10 =>
  g_bd (x7 + 1) fun x11 =>
  f_X11_notes_L46 v x1 k80_4 n x11 f10)
def f_X11_notes_L10 (k39_12 : (Nat → Int32) → Option (Int32 × (Nat → Int32))) : Nat → Int32 → (Nat → Int32) → Option (Int32 × (Nat → Int32))
  | 0, _, _ => none
  | n+1, x14, f15 =>
  if (6992 : Int32) ≤ x14 then
  (k39_12 f15)
  else
  (g_rd f15 8740 (x14 + (1748 : Int32)) fun x16 =>
  g_wr f15 8740 x14 x16 fun f17 =>
  g_bd (x14 + 1) fun x18 =>
  f_X11_notes_L10 k39_12 n x18 f17)
def f_X11_notes (pasts : Int32) (v : (Nat → Int32)) (past : (Nat → Int32)) : Option (Int32 × (Nat → Int32)) :=
  g_jn (fun (x1 : Int32) (f2 : Nat → Int32) =>
  g_jn (fun (f4 : Nat → Int32) =>
  g_bd (x1 + (1 : Int32)) fun x6 =>
  some (x6, f4)) fun k80_4 =>
  f_X11_notes_L46 v x1 k80_4 g_fuel (0 : Int32) f2) fun j44_2 =>
  if pasts = (5 : Int32) then
  (g_jn (fun (f12 : Nat → Int32) =>
  j44_2 (4 : Int32) f12) fun k39_12 =>
  f_X11_notes_L10 k39_12 g_fuel (0 : Int32) past)
  else
  (j44_2 pasts past)
def f_X11_empties_L10 : Nat → Int32 → (Nat → Int32) → Option ((Nat → Int32))
  | 0, _, _ => none
  | n+1, x2, f3 =>
  if (24 : Int32) ≤ x2 then
  (some f3)
  else
  (g_wr f3 1748 (f_X11_at x2 (3 : Int32)) (-1 : Int32) fun f4 =>
  g_bd (x2 + 1) fun x5 =>
  f_X11_empties_L10 n x5 f4)
def f_X11_empties (v : (Nat → Int32)) : Option ((Nat → Int32)) :=
  g_wr v 1748 (13 : Int32) (0 : Int32) fun f1 =>
  f_X11_empties_L10 g_fuel (0 : Int32) f1
def f_X11_sets (pasts : Int32) (v : (Nat → Int32)) (past : (Nat → Int32)) (i1 : Int32) (i2 : Int32) : Option (Int32 × Int32 × (Nat → Int32) × (Nat → Int32)) :=
  (f_X11_notes pasts v past).bind fun r1 =>
  g_rd v 1748 i1 fun x2 =>
  g_wr v 1748 i1 i2 fun f3 =>
  (f_X11_empties f3).bind fun r4 =>
  some (x2, r1.1, r4, r1.2)
def f_X11_undo_L22 (past : (Nat → Int32)) (x1 : Int32) (k56_2 : (Nat → Int32) → Option (Int32 × Int32 × (Nat → Int32))) : Nat → Int32 → (Nat → Int32) → Option (Int32 × Int32 × (Nat → Int32))
  | 0, _, _ => none
  | n+1, x4, f5 =>
  if (1748 : Int32) ≤ x4 then
  (k56_2 f5)
  else
  (g_rd past 8740 (((1748 : Int32) * x1) + x4) fun x6 =>
  g_wr f5 1748 x4 x6 fun f7 =>
  g_bd (x4 + 1) fun x8 =>
  f_X11_undo_L22 past x1 k56_2 n x8 f7)
def f_X11_undo (pasts : Int32) (v : (Nat → Int32)) (past : (Nat → Int32)) : Option (Int32 × Int32 × (Nat → Int32)) :=
  if pasts = 0 then
  (some ((-3 : Int32), pasts, v))
  else
  (g_bd (pasts - (1 : Int32)) fun x1 =>
  g_jn (fun (f2 : Nat → Int32) =>
  some (x1, x1, f2)) fun k56_2 =>
  f_X11_undo_L22 past x1 k56_2 g_fuel (0 : Int32) v)
def f_X11_append (length : Int32) (text : (Nat → Int32)) (i1 : Int32) : Option (Int32 × Int32 × (Nat → Int32)) :=
  if (f_X11_in i1 (32 : Int32) (126 : Int32)) = 0 then
  (some ((-1 : Int32), length, text))
  else
  (if length = (160 : Int32) then
  (some ((-2 : Int32), length, text))
  else
  (g_wr text 160 length i1 fun f1 =>
  g_bd (length + (1 : Int32)) fun x2 =>
  some (x2, x2, f1)))
def f_X11_clearText (length : Int32) : Int32 × Int32 :=
  (length, (0 : Int32))
def f_X11_faultOf_L14 (length : Int32) (text : (Nat → Int32)) (k154_3 : Int32 → Int32 → Int32 → Option (Int32 × Int32)) : Nat → Int32 → Int32 → Int32 → Int32 → Int32 → Option (Int32 × Int32)
  | 0, _, _, _, _, _ => none
  | n+1, x6, x7, x8, x9, x10 =>
  if length ≤ x9 then
  (k154_3 x6 x7 x10)
  else
  (g_rd text 160 x9 fun x11 =>
  g_jn (fun (x12 : Int32) =>
  g_jn (fun (x14 : Int32) (x15 : Int32) (x16 : Int32) (x17 : Int32) =>
  g_bd (x9 + 1) fun x19 =>
  f_X11_faultOf_L14 length text k154_3 n x14 x15 x16 x19 x17) fun j148_17 =>
  if (f_X11_in x11 (48 : Int32) (57 : Int32)) = 0 then
  (g_jn (if x11 = (59 : Int32) then
  (if x12 = 0 then
  (some (x9, x10))
  else
  (g_bd (x10 + (1 : Int32)) fun x21 =>
  j148_17 (0 : Int32) (0 : Int32) x8 x21))
  else
  (some (x9, x10))) fun j116_19 =>
  if x11 = (47 : Int32) then
  (if x12 = 0 then
  (j116_19)
  else
  (if (7 : Int32) ≤ x7 then
  (j116_19)
  else
  (g_bd (x7 + 1) fun x22 =>
  j148_17 (0 : Int32) x22 x6 x10)))
  else
  (j116_19))
  else
  (if x6 = (8 : Int32) then
  (some (x9, x10))
  else
  (g_jn (g_bd (x6 + 1) fun x24 =>
  j148_17 x24 x7 x8 x10) fun j82_22 =>
  if x7 ≤ 0 then
  (j82_22)
  else
  (if x6 = x8 then
  (some (x9, x10))
  else
  (j82_22))))) fun j50_12 =>
  g_jn (j50_12 (0 : Int32)) fun j49_24 =>
  if x6 ≤ 0 then
  (j49_24)
  else
  (g_jn (j50_12 (1 : Int32)) fun j45_25 =>
  if x7 = 0 then
  (j45_25)
  else
  (if x6 = x8 then
  (j45_25)
  else
  (j49_24))))
def f_X11_faultOf (length : Int32) (text : (Nat → Int32)) : Option (Int32 × Int32) :=
  g_jn (fun (x1 : Int32) (x2 : Int32) (x3 : Int32) =>
  g_jn (some (length, x3)) fun j162_4 =>
  if 0 < x1 then
  (j162_4)
  else
  (if x2 ≤ 0 then
  (some ((-1 : Int32), x3))
  else
  (j162_4))) fun k154_3 =>
  f_X11_faultOf_L14 length text k154_3 g_fuel (0 : Int32) (0 : Int32) (0 : Int32) (0 : Int32) (0 : Int32)
def f_X11_faultPosition (length : Int32) (text : (Nat → Int32)) : Option (Int32 × Int32) :=
  (f_X11_faultOf length text).bind fun r1 =>
  if 0 ≤ r1.1 then
  (some (r1.1, r1.2))
  else
  (some ((-4 : Int32), r1.2))
def f_X11_adds_L98 (x1 : Int32) : Nat → Int32 → (Nat → Int32) → Option ((Nat → Int32))
  | 0, _, _ => none
  | n+1, x12, f13 =>
  if (64 : Int32) ≤ x12 then
  (some f13)
  else
  (g_wr f13 1748 (f_X11_at x1 ((8 : Int32) + x12)) (0 : Int32) fun f14 =>
  g_bd (x12 + 1) fun x15 =>
  f_X11_adds_L98 x1 n x15 f14)
def f_X11_adds (v : (Nat → Int32)) (i1 : Int32) (i2 : Int32) : Option ((Nat → Int32)) :=
  g_rd v 1748 (0 : Int32) fun x1 =>
  g_rd v 1748 (0 : Int32) fun x2 =>
  g_bd (x2 + (1 : Int32)) fun x3 =>
  g_wr v 1748 (0 : Int32) x3 fun f4 =>
  g_wr f4 1748 (f_X11_at x1 (0 : Int32)) i1 fun f5 =>
  g_wr f5 1748 (f_X11_at x1 (1 : Int32)) i2 fun f6 =>
  g_wr f6 1748 (f_X11_at x1 (2 : Int32)) (0 : Int32) fun f7 =>
  g_wr f7 1748 (f_X11_at x1 (3 : Int32)) (-1 : Int32) fun f8 =>
  g_wr f8 1748 (f_X11_at x1 (4 : Int32)) (0 : Int32) fun f9 =>
  g_wr f9 1748 (f_X11_at x1 (5 : Int32)) (0 : Int32) fun f10 =>
  g_wr f10 1748 (f_X11_at x1 (6 : Int32)) (0 : Int32) fun f11 =>
  f_X11_adds_L98 x1 g_fuel (0 : Int32) f11
def f_X11_read_L39 (length : Int32) (text : (Nat → Int32)) (k160_4 : (Nat → Int32) → Option (Int32 × Int32 × Int32 × (Nat → Int32) × (Nat → Int32))) : Nat → Int32 → Int32 → Int32 → (Nat → Int32) → Option (Int32 × Int32 × Int32 × (Nat → Int32) × (Nat → Int32))
  | 0, _, _, _, _ => none
  | n+1, x7, x8, x9, f10 =>
  if length ≤ x9 then
  (k160_4 f10)
  else
  (g_rd text 160 x9 fun x11 =>
  g_jn (fun (f12 : Nat → Int32) =>
  g_rd f12 1748 (0 : Int32) fun x14 =>
  g_bd (x14 - (1 : Int32)) fun x15 =>
  g_jn (fun (x16 : Int32) (x17 : Int32) (f18 : Nat → Int32) =>
  g_bd (x9 + 1) fun x20 =>
  f_X11_read_L39 length text k160_4 n x16 x17 x20 f18) fun j154_18 =>
  if x11 = (59 : Int32) then
  (g_bd (x8 + (1 : Int32)) fun x21 =>
  g_wr f12 1748 (f_X11_at x15 (1 : Int32)) x21 fun f22 =>
  j154_18 (0 : Int32) (0 : Int32) f22)
  else
  (if x11 = (47 : Int32) then
  (g_bd (x8 + 1) fun x23 =>
  j154_18 (0 : Int32) x23 f12)
  else
  (g_bd (x11 - (48 : Int32)) fun x24 =>
  g_wr f12 1748 (f_X11_pixelAt x15 x7 x8) x24 fun f25 =>
  g_bd (x7 + 1) fun x26 =>
  g_wr f25 1748 (f_X11_at x15 (0 : Int32)) x26 fun f27 =>
  j154_18 x26 x8 f27))) fun j69_12 =>
  if x7 = 0 then
  (if x8 = 0 then
  ((f_X11_adds f10 (0 : Int32) (0 : Int32)).bind fun r28 =>
  j69_12 r28)
  else
  (j69_12 f10))
  else
  (j69_12 f10))
def f_X11_read (pasts : Int32) (length : Int32) (v : (Nat → Int32)) (past : (Nat → Int32)) (text : (Nat → Int32)) : Option (Int32 × Int32 × Int32 × (Nat → Int32) × (Nat → Int32)) :=
  (f_X11_faultOf length text).bind fun r1 =>
  if r1.1 < 0 then
  (g_rd v 1748 (0 : Int32) fun x2 =>
  if (x2 + r1.2) ≤ (24 : Int32) then
  ((f_X11_notes pasts v past).bind fun r3 =>
  g_jn (fun (f4 : Nat → Int32) =>
  g_rd f4 1748 (0 : Int32) fun x6 =>
  some (x6, r3.1, r1.2, f4, r3.2)) fun k160_4 =>
  f_X11_read_L39 length text k160_4 g_fuel (0 : Int32) (0 : Int32) (0 : Int32) v)
  else
  (some ((-2 : Int32), pasts, r1.2, v, past)))
  else
  (some ((-3 : Int32), pasts, r1.2, v, past))
def f_X11_random (state : Int64) (i1 : Int32) : Option (Int32 × Int64) :=
  g_bd (g_remL ((state * (1103515245 : Int64)) + (12345 : Int64)) (2147483648 : Int64)) fun y1 =>
  g_nz i1 <|
  some ((g_rem (y1 / (65536 : Int64)).toInt32 i1), y1)
def f_X11_draw_L96 (x12 : Int32) (x15 : Int32) (x21 : Int32) (k144_25 : Int64 → (Nat → Int32) → Option (Int32 × Int32 × Int64 × (Nat → Int32) × (Nat → Int32))) : Nat → Int32 → Int64 → (Nat → Int32) → Option (Int32 × Int32 × Int64 × (Nat → Int32) × (Nat → Int32))
  | 0, _, _, _ => none
  | n+1, x28, x29, f30 =>
  if x12 ≤ x28 then
  (k144_25 x29 f30)
  else
  ((f_X11_random x29 (6 : Int32)).bind fun r31 =>
  g_bd (r31.1 - (2 : Int32)) fun x32 =>
  g_bd (if 0 ≤ x32 then x32 else (0 : Int32)) fun x33 =>
  g_wr f30 1748 (f_X11_pixelAt x15 x28 x21) x33 fun f34 =>
  g_bd (x28 + 1) fun x35 =>
  f_X11_draw_L96 x12 x15 x21 k144_25 n x35 r31.2 f34)
def f_X11_draw_L86 (x12 : Int32) (x14 : Int32) (x15 : Int32) (k150_18 : Int64 → (Nat → Int32) → Option (Int32 × Int32 × Int64 × (Nat → Int32) × (Nat → Int32))) : Nat → Int32 → Int64 → (Nat → Int32) → Option (Int32 × Int32 × Int64 × (Nat → Int32) × (Nat → Int32))
  | 0, _, _, _ => none
  | n+1, x21, x22, f23 =>
  if x14 ≤ x21 then
  (k150_18 x22 f23)
  else
  (g_jn (fun (x24 : Int64) (f25 : Nat → Int32) =>
  g_bd (x21 + 1) fun x27 =>
  f_X11_draw_L86 x12 x14 x15 k150_18 n x27 x24 f25) fun k144_25 =>
  f_X11_draw_L96 x12 x15 x21 k144_25 g_fuel (0 : Int32) x22 f23)
def f_X11_draw_L44 (i2 : Int32) (k156_5 : Int64 → (Nat → Int32) → Option (Int32 × Int32 × Int64 × (Nat → Int32) × (Nat → Int32))) : Nat → Int32 → Int64 → (Nat → Int32) → Option (Int32 × Int32 × Int64 × (Nat → Int32) × (Nat → Int32))
  | 0, _, _, _ => none
  | n+1, x8, x9, f10 =>
  if i2 ≤ x8 then
  (k156_5 x9 f10)
  else
  ((f_X11_random x9 (5 : Int32)).bind fun r11 =>
  g_bd (r11.1 + (1 : Int32)) fun x12 =>
  (f_X11_random r11.2 (5 : Int32)).bind fun r13 =>
  g_bd (r13.1 + (1 : Int32)) fun x14 =>
  g_rd f10 1748 (0 : Int32) fun x15 =>
  (f_X11_adds f10 x12 x14).bind fun r16 =>
  g_jn (fun (x17 : Int64) (f18 : Nat → Int32) =>
  g_bd (x8 + 1) fun x20 =>
  f_X11_draw_L44 i2 k156_5 n x20 x17 f18) fun k150_18 =>
  f_X11_draw_L86 x12 x14 x15 k150_18 g_fuel (0 : Int32) r13.2 r16)
def f_X11_draw (pasts : Int32) (state : Int64) (v : (Nat → Int32)) (past : (Nat → Int32)) (i1 : Int32) (i2 : Int32) : Option (Int32 × Int32 × Int64 × (Nat → Int32) × (Nat → Int32)) :=
  if i1 < 0 then
  (some ((-1 : Int32), pasts, state, v, past))
  else
  (if (f_X11_in i2 (1 : Int32) (8 : Int32)) = 0 then
  (some ((-1 : Int32), pasts, state, v, past))
  else
  (g_rd v 1748 (0 : Int32) fun x1 =>
  if (x1 + i2) ≤ (24 : Int32) then
  ((f_X11_notes pasts v past).bind fun r2 =>
  g_bd (i1).toInt64 fun y3 =>
  g_jn (fun (x4 : Int64) (f5 : Nat → Int32) =>
  g_rd f5 1748 (0 : Int32) fun x7 =>
  some (x7, r2.1, x4, f5, r2.2)) fun k156_5 =>
  f_X11_draw_L44 i2 k156_5 g_fuel (0 : Int32) y3 v)
  else
  (some ((-2 : Int32), pasts, state, v, past))))
def f_X11_sprites (v : (Nat → Int32)) : Option (Int32) :=
  g_rd v 1748 (0 : Int32) fun x1 =>
  some x1
def f_X11_width (v : (Nat → Int32)) (i1 : Int32) : Option (Int32) :=
  (f_X11_isSprite v i1).bind fun r1 =>
  if r1 = 0 then
  (some (-1 : Int32))
  else
  (g_rd v 1748 (f_X11_at i1 (0 : Int32)) fun x2 =>
  some x2)
def f_X11_height (v : (Nat → Int32)) (i1 : Int32) : Option (Int32) :=
  (f_X11_isSprite v i1).bind fun r1 =>
  if r1 = 0 then
  (some (-1 : Int32))
  else
  (g_rd v 1748 (f_X11_at i1 (1 : Int32)) fun x2 =>
  some x2)
def f_X11_isPixel (v : (Nat → Int32)) (i1 : Int32) (i2 : Int32) (i3 : Int32) : Option (Int32) :=
  (f_X11_isSprite v i1).bind fun r1 =>
  if r1 = 0 then
  (some (0 : Int32))
  else
  (g_rd v 1748 (f_X11_at i1 (0 : Int32)) fun x2 =>
  if (f_X11_in i2 (0 : Int32) (x2 - (1 : Int32))) = 0 then
  (some (0 : Int32))
  else
  (g_rd v 1748 (f_X11_at i1 (1 : Int32)) fun x3 =>
  if (f_X11_in i3 (0 : Int32) (x3 - (1 : Int32))) = 0 then
  (some (0 : Int32))
  else
  (some (1 : Int32))))
def f_X11_color (v : (Nat → Int32)) (i1 : Int32) (i2 : Int32) (i3 : Int32) : Option (Int32) :=
  (f_X11_isPixel v i1 i2 i3).bind fun r1 =>
  if r1 = 0 then
  (some (-1 : Int32))
  else
  (g_rd v 1748 (f_X11_pixelAt i1 i2 i3) fun x2 =>
  some x2)
def f_X11_setPixel (pasts : Int32) (v : (Nat → Int32)) (past : (Nat → Int32)) (i1 : Int32) (i2 : Int32) (i3 : Int32) (i4 : Int32) : Option (Int32 × Int32 × (Nat → Int32) × (Nat → Int32)) :=
  (f_X11_isPixel v i1 i2 i3).bind fun r1 =>
  if r1 = 0 then
  (some ((-1 : Int32), pasts, v, past))
  else
  (if (f_X11_in i4 (0 : Int32) (9 : Int32)) = 0 then
  (some ((-1 : Int32), pasts, v, past))
  else
  ((f_X11_sets pasts v past (f_X11_pixelAt i1 i2 i3) i4).bind fun r2 =>
  some (r2.1, r2.2.1, r2.2.2.1, r2.2.2.2)))
def f_X11_drop_L30 (k65_7 : (Nat → Int32) → Option (Int32 × Int32 × (Nat → Int32) × (Nat → Int32))) : Nat → Int32 → (Nat → Int32) → Option (Int32 × Int32 × (Nat → Int32) × (Nat → Int32))
  | 0, _, _ => none
  | n+1, x11, f12 =>
  g_rd f12 1748 (0 : Int32) fun x13 =>
  if (f_X11_at x13 (0 : Int32)) ≤ x11 then
  (k65_7 f12)
  else
  (g_rd f12 1748 (x11 + (72 : Int32)) fun x14 =>
  g_wr f12 1748 x11 x14 fun f15 =>
  g_bd (x11 + 1) fun x16 =>
  f_X11_drop_L30 k65_7 n x16 f15)
def f_X11_drop (pasts : Int32) (v : (Nat → Int32)) (past : (Nat → Int32)) (i1 : Int32) : Option (Int32 × Int32 × (Nat → Int32) × (Nat → Int32)) :=
  (f_X11_isSprite v i1).bind fun r1 =>
  if r1 = 0 then
  (some ((-1 : Int32), pasts, v, past))
  else
  ((f_X11_notes pasts v past).bind fun r2 =>
  g_rd v 1748 (0 : Int32) fun x3 =>
  g_bd (x3 - (1 : Int32)) fun x4 =>
  g_wr v 1748 (0 : Int32) x4 fun f5 =>
  g_bd (f_X11_at i1 (0 : Int32)) fun x6 =>
  g_jn (fun (f7 : Nat → Int32) =>
  (f_X11_empties f7).bind fun r9 =>
  g_rd r9 1748 (0 : Int32) fun x10 =>
  some (x10, r2.1, r9, r2.2)) fun k65_7 =>
  f_X11_drop_L30 k65_7 g_fuel x6 f5)
def f_X11_setGroup (pasts : Int32) (v : (Nat → Int32)) (past : (Nat → Int32)) (i1 : Int32) (i2 : Int32) : Option (Int32 × Int32 × (Nat → Int32) × (Nat → Int32)) :=
  (f_X11_isSprite v i1).bind fun r1 =>
  if r1 = 0 then
  (some ((-1 : Int32), pasts, v, past))
  else
  (if (f_X11_in i2 (0 : Int32) (3 : Int32)) = 0 then
  (some ((-1 : Int32), pasts, v, past))
  else
  ((f_X11_notes pasts v past).bind fun r2 =>
  g_rd v 1748 (f_X11_at i1 (2 : Int32)) fun x3 =>
  g_wr v 1748 (f_X11_at i1 (2 : Int32)) i2 fun f4 =>
  some (x3, r2.1, f4, r2.2)))
def f_X11_groupOf (v : (Nat → Int32)) (i1 : Int32) : Option (Int32) :=
  (f_X11_isSprite v i1).bind fun r1 =>
  if r1 = 0 then
  (some (-1 : Int32))
  else
  (g_rd v 1748 (f_X11_at i1 (2 : Int32)) fun x2 =>
  some x2)
def f_X11_trims_L46 (v : (Nat → Int32)) (i1 : Int32) (x1 : Int32) (x18 : Int32) (k148_22 : Int32 → Int32 → Int32 → Int32 → Option ((Nat → Int32) × (Nat → Int32) × (Nat → Int32) × (Nat → Int32))) : Nat → Int32 → Int32 → Int32 → Int32 → Int32 → Option ((Nat → Int32) × (Nat → Int32) × (Nat → Int32) × (Nat → Int32))
  | 0, _, _, _, _, _ => none
  | n+1, x25, x26, x27, x28, x29 =>
  if x1 ≤ x29 then
  (k148_22 x25 x26 x27 x28)
  else
  (g_rd v 1748 (f_X11_pixelAt i1 x29 x18) fun x30 =>
  g_jn (fun (x31 : Int32) (x32 : Int32) (x33 : Int32) (x34 : Int32) =>
  g_bd (x29 + 1) fun x36 =>
  f_X11_trims_L46 v i1 x1 x18 k148_22 n x31 x32 x33 x34 x36) fun j142_34 =>
  g_jn (g_bd (if x25 ≤ x29 then x25 else x29) fun x38 =>
  g_bd (if x26 ≤ x18 then x26 else x18) fun x39 =>
  g_bd (if x29 ≤ x27 then x27 else x29) fun x40 =>
  g_bd (if x18 ≤ x28 then x28 else x18) fun x41 =>
  j142_34 x38 x39 x40 x41) fun j78_36 =>
  if x30 = 0 then
  (g_rd v 1748 (7 : Int32) fun x42 =>
  if x42 = 0 then
  (j78_36)
  else
  (j142_34 x25 x26 x27 x28))
  else
  (j78_36))
def f_X11_trims_L37 (v : (Nat → Int32)) (i1 : Int32) (x1 : Int32) (x2 : Int32) (k154_6 : Int32 → Int32 → Int32 → Int32 → Option ((Nat → Int32) × (Nat → Int32) × (Nat → Int32) × (Nat → Int32))) : Nat → Int32 → Int32 → Int32 → Int32 → Int32 → Option ((Nat → Int32) × (Nat → Int32) × (Nat → Int32) × (Nat → Int32))
  | 0, _, _, _, _, _ => none
  | n+1, x14, x15, x16, x17, x18 =>
  if x2 ≤ x18 then
  (k154_6 x14 x15 x16 x17)
  else
  (g_jn (fun (x19 : Int32) (x20 : Int32) (x21 : Int32) (x22 : Int32) =>
  g_bd (x18 + 1) fun x24 =>
  f_X11_trims_L37 v i1 x1 x2 k154_6 n x19 x20 x21 x22 x24) fun k148_22 =>
  f_X11_trims_L46 v i1 x1 x18 k148_22 g_fuel x14 x15 x16 x17 (0 : Int32))
def f_X11_trims (v : (Nat → Int32)) (left : (Nat → Int32)) (top : (Nat → Int32)) (wide : (Nat → Int32)) (high : (Nat → Int32)) (i1 : Int32) : Option ((Nat → Int32) × (Nat → Int32) × (Nat → Int32) × (Nat → Int32)) :=
  g_rd v 1748 (f_X11_at i1 (0 : Int32)) fun x1 =>
  g_rd v 1748 (f_X11_at i1 (1 : Int32)) fun x2 =>
  g_jn (fun (x3 : Int32) (x4 : Int32) (x5 : Int32) (x6 : Int32) =>
  g_wr left 24 i1 x3 fun f8 =>
  g_wr top 24 i1 x4 fun f9 =>
  g_bd (if 0 ≤ x5 then ((x5 - x3) + (1 : Int32)) else (0 : Int32)) fun x10 =>
  g_wr wide 24 i1 x10 fun f11 =>
  g_bd (if 0 ≤ x5 then ((x6 - x4) + (1 : Int32)) else (0 : Int32)) fun x12 =>
  g_wr high 24 i1 x12 fun f13 =>
  some (f8, f9, f11, f13)) fun k154_6 =>
  f_X11_trims_L37 v i1 x1 x2 k154_6 g_fuel x1 x2 (-1 : Int32) (-1 : Int32) (0 : Int32)
def f_X11_turnsBack_L17 (i2 : Int32) (i3 : Int32) (k68_3 : Int32 → Int32 → Option (Int32 × Int32)) : Nat → Int32 → Int32 → Int32 → Option (Int32 × Int32)
  | 0, _, _, _ => none
  | n+1, x6, x7, x8 =>
  if x6 ≤ 0 then
  (k68_3 x7 x8)
  else
  (g_bd (if (g_rem x6 (2 : Int32)) = (1 : Int32) then i3 else i2) fun x9 =>
  g_bd ((x9 - (1 : Int32)) - x7) fun x10 =>
  g_bd (x6 + (-1)) fun x11 =>
  f_X11_turnsBack_L17 i2 i3 k68_3 n x11 x8 x10)
def f_X11_turnsBack (i1 : Int32) (i2 : Int32) (i3 : Int32) (i4 : Int32) (i5 : Int32) : Option (Int32 × Int32) :=
  g_bd (g_rem i1 (4 : Int32)) fun x1 =>
  g_jn (fun (x2 : Int32) (x3 : Int32) =>
  g_bd (if i1 < (4 : Int32) then x2 else ((i2 - (1 : Int32)) - x2)) fun x5 =>
  some (x5, x3)) fun k68_3 =>
  f_X11_turnsBack_L17 i2 i3 k68_3 g_fuel x1 i4 i5
def f_X11_colorBy (v : (Nat → Int32)) (left : (Nat → Int32)) (top : (Nat → Int32)) (wide : (Nat → Int32)) (high : (Nat → Int32)) (i1 : Int32) (i2 : Int32) (i3 : Int32) (i4 : Int32) (i5 : Int32) : Option (Int32 × Int32 × Int32) :=
  g_jn (fun (x1 : Int32) =>
  g_jn (fun (x3 : Int32) =>
  (f_X11_turnsBack i3 x1 x3 i4 i5).bind fun r5 =>
  g_rd wide 24 i1 fun x6 =>
  g_rd high 24 i1 fun x7 =>
  (f_X11_turnsBack i2 x6 x7 r5.1 r5.2).bind fun r8 =>
  g_rd left 24 i1 fun x9 =>
  g_rd top 24 i1 fun x10 =>
  g_rd v 1748 (f_X11_pixelAt i1 (x9 + r8.1) (x10 + r8.2)) fun x11 =>
  some (x11, r8.1, r8.2)) fun j40_3 =>
  if i2 = 0 then
  (g_rd high 24 i1 fun x12 =>
  j40_3 x12)
  else
  (g_rd wide 24 i1 fun x13 =>
  j40_3 x13)) fun j21_1 =>
  if i2 = 0 then
  (g_rd wide 24 i1 fun x14 =>
  j21_1 x14)
  else
  (g_rd high 24 i1 fun x15 =>
  j21_1 x15)
def f_X11_isLike_L102 (v : (Nat → Int32)) (left : (Nat → Int32)) (top : (Nat → Int32)) (wide : (Nat → Int32)) (high : (Nat → Int32)) (i1 : Int32) (i2 : Int32) (i3 : Int32) (i4 : Int32) (x9 : Int32) (k173_17 : Int32 → Int32 → Int32 → Option (Int32 × Int32 × Int32)) : Nat → Int32 → Int32 → Int32 → Int32 → Option (Int32 × Int32 × Int32)
  | 0, _, _, _, _ => none
  | n+1, x20, x21, x22, x23 =>
  g_rd wide 24 i1 fun x24 =>
  if x24 ≤ x21 then
  (k173_17 x20 x22 x23)
  else
  (if x20 = 0 then
  (k173_17 x20 x22 x23)
  else
  (g_rd left 24 i1 fun x25 =>
  g_rd top 24 i1 fun x26 =>
  g_rd v 1748 (f_X11_pixelAt i1 (x25 + x21) (x26 + x9)) fun x27 =>
  (f_X11_colorBy v left top wide high i2 i3 i4 x21 x9).bind fun r28 =>
  g_bd (if x27 = r28.1 then (1 : Int32) else (0 : Int32)) fun x29 =>
  g_bd (x21 + 1) fun x30 =>
  f_X11_isLike_L102 v left top wide high i1 i2 i3 i4 x9 k173_17 n x29 x30 r28.2.1 r28.2.2))
def f_X11_isLike_L83 (v : (Nat → Int32)) (left : (Nat → Int32)) (top : (Nat → Int32)) (wide : (Nat → Int32)) (high : (Nat → Int32)) (i1 : Int32) (i2 : Int32) (i3 : Int32) (i4 : Int32) : Nat → Int32 → Int32 → Int32 → Int32 → Option (Int32 × Int32 × Int32)
  | 0, _, _, _, _ => none
  | n+1, x8, x9, x10, x11 =>
  g_rd high 24 i1 fun x12 =>
  if x12 ≤ x9 then
  (g_z x8 <|
  some (x8, x10, x11))
  else
  (if x8 = 0 then
  (g_z x8 <|
  some (x8, x10, x11))
  else
  (g_jn (fun (x15 : Int32) (x16 : Int32) (x17 : Int32) =>
  g_bd (x9 + 1) fun x19 =>
  f_X11_isLike_L83 v left top wide high i1 i2 i3 i4 n x15 x19 x16 x17) fun k173_17 =>
  f_X11_isLike_L102 v left top wide high i1 i2 i3 i4 x9 k173_17 g_fuel x8 (0 : Int32) x10 x11))
def f_X11_isLike (backX : Int32) (backY : Int32) (v : (Nat → Int32)) (left : (Nat → Int32)) (top : (Nat → Int32)) (wide : (Nat → Int32)) (high : (Nat → Int32)) (i1 : Int32) (i2 : Int32) (i3 : Int32) (i4 : Int32) : Option (Int32 × Int32 × Int32) :=
  g_bd (if (g_rem (i4 + i3) (2 : Int32)) = (1 : Int32) then (1 : Int32) else (0 : Int32)) fun x1 =>
  g_rd wide 24 i1 fun x2 =>
  g_jn (fun (x3 : Int32) =>
  if x2 = x3 then
  (g_rd high 24 i1 fun x5 =>
  g_jn (fun (x6 : Int32) =>
  if x5 = x6 then
  (f_X11_isLike_L83 v left top wide high i1 i2 i3 i4 g_fuel (1 : Int32) (0 : Int32) backX backY)
  else
  (some ((0 : Int32), backX, backY))) fun j72_6 =>
  if x1 = 0 then
  (g_rd high 24 i2 fun x31 =>
  j72_6 x31)
  else
  (g_rd wide 24 i2 fun x32 =>
  j72_6 x32))
  else
  (some ((0 : Int32), backX, backY))) fun j43_3 =>
  if x1 = 0 then
  (g_rd wide 24 i2 fun x33 =>
  j43_3 x33)
  else
  (g_rd high 24 i2 fun x34 =>
  j43_3 x34)
def f_X11_orientations (v : (Nat → Int32)) : Option (Int32) :=
  g_rd v 1748 (8 : Int32) fun x1 =>
  if x1 = (3 : Int32) then
  (some (8 : Int32))
  else
  (g_rd v 1748 (8 : Int32) fun x2 =>
  if x2 = (2 : Int32) then
  (some (4 : Int32))
  else
  (g_rd v 1748 (8 : Int32) fun x3 =>
  some x3))
def f_X11_seeks_L41 (v : (Nat → Int32)) (left : (Nat → Int32)) (top : (Nat → Int32)) (wide : (Nat → Int32)) (high : (Nat → Int32)) (i1 : Int32) (x3 : Int32) (k107_13 : Int32 → Int32 → (Nat → Int32) → (Nat → Int32) → Option (Int32 × Int32 × (Nat → Int32) × (Nat → Int32))) : Nat → Int32 → Int32 → Int32 → (Nat → Int32) → (Nat → Int32) → Option (Int32 × Int32 × (Nat → Int32) × (Nat → Int32))
  | 0, _, _, _, _, _ => none
  | n+1, x16, x17, x18, f19, f20 =>
  (f_X11_orientations v).bind fun r21 =>
  if r21 ≤ x16 then
  (k107_13 x17 x18 f19 f20)
  else
  (g_rd f19 24 i1 fun x22 =>
  if 0 ≤ x22 then
  (k107_13 x17 x18 f19 f20)
  else
  (g_rd wide 24 x3 fun x23 =>
  g_jn (fun (x24 : Int32) (x25 : Int32) (f26 : Nat → Int32) (f27 : Nat → Int32) =>
  g_bd (x16 + 1) fun x29 =>
  f_X11_seeks_L41 v left top wide high i1 x3 k107_13 n x29 x24 x25 f26 f27) fun j101_27 =>
  if x23 ≤ 0 then
  (j101_27 x17 x18 f19 f20)
  else
  (g_rd f19 24 x3 fun x30 =>
  if 0 ≤ x30 then
  (j101_27 x17 x18 f19 f20)
  else
  ((f_X11_isLike x17 x18 v left top wide high i1 x3 (0 : Int32) x16).bind fun r31 =>
  if r31.1 = 0 then
  (j101_27 r31.2.1 r31.2.2 f19 f20)
  else
  (g_wr f19 24 i1 x3 fun f32 =>
  g_wr f20 24 i1 x16 fun f33 =>
  j101_27 r31.2.1 r31.2.2 f32 f33)))))
def f_X11_seeks_L16 (v : (Nat → Int32)) (left : (Nat → Int32)) (top : (Nat → Int32)) (wide : (Nat → Int32)) (high : (Nat → Int32)) (i1 : Int32) : Nat → Int32 → Int32 → Int32 → (Nat → Int32) → (Nat → Int32) → Option (Int32 × Int32 × (Nat → Int32) × (Nat → Int32))
  | 0, _, _, _, _, _ => none
  | n+1, x3, x4, x5, f6, f7 =>
  if i1 ≤ x3 then
  (some (x4, x5, f6, f7))
  else
  (g_rd wide 24 i1 fun x8 =>
  if x8 ≤ 0 then
  (some (x4, x5, f6, f7))
  else
  (g_rd f6 24 i1 fun x9 =>
  if 0 ≤ x9 then
  (some (x4, x5, f6, f7))
  else
  (g_jn (fun (x10 : Int32) (x11 : Int32) (f12 : Nat → Int32) (f13 : Nat → Int32) =>
  g_bd (x3 + 1) fun x15 =>
  f_X11_seeks_L16 v left top wide high i1 n x15 x10 x11 f12 f13) fun k107_13 =>
  f_X11_seeks_L41 v left top wide high i1 x3 k107_13 g_fuel (0 : Int32) x4 x5 f6 f7)))
def f_X11_seeks (backX : Int32) (backY : Int32) (v : (Nat → Int32)) (left : (Nat → Int32)) (top : (Nat → Int32)) (wide : (Nat → Int32)) (high : (Nat → Int32)) (original : (Nat → Int32)) (turn : (Nat → Int32)) (i1 : Int32) : Option (Int32 × Int32 × (Nat → Int32) × (Nat → Int32)) :=
  g_wr original 24 i1 (-1 : Int32) fun f1 =>
  g_wr turn 24 i1 (0 : Int32) fun f2 =>
  f_X11_seeks_L16 v left top wide high i1 g_fuel (0 : Int32) backX backY f1 f2
def f_X11_knows_L2 (v : (Nat → Int32)) : Nat → Int32 → Int32 → Int32 → (Nat → Int32) → (Nat → Int32) → (Nat → Int32) → (Nat → Int32) → (Nat → Int32) → (Nat → Int32) → Option (Int32 × Int32 × (Nat → Int32) × (Nat → Int32) × (Nat → Int32) × (Nat → Int32) × (Nat → Int32) × (Nat → Int32))
  | 0, _, _, _, _, _, _, _, _, _ => none
  | n+1, x1, x2, x3, f4, f5, f6, f7, f8, f9 =>
  g_rd v 1748 (0 : Int32) fun x10 =>
  if x10 ≤ x1 then
  (some (x2, x3, f4, f5, f6, f7, f8, f9))
  else
  ((f_X11_trims v f4 f5 f6 f7 x1).bind fun r11 =>
  (f_X11_seeks x2 x3 v r11.1 r11.2.1 r11.2.2.1 r11.2.2.2 f8 f9 x1).bind fun r12 =>
  g_bd (x1 + 1) fun x13 =>
  f_X11_knows_L2 v n x13 r12.1 r12.2.1 r11.1 r11.2.1 r11.2.2.1 r11.2.2.2 r12.2.2.1 r12.2.2.2)
def f_X11_knows (backX : Int32) (backY : Int32) (v : (Nat → Int32)) (left : (Nat → Int32)) (top : (Nat → Int32)) (wide : (Nat → Int32)) (high : (Nat → Int32)) (original : (Nat → Int32)) (turn : (Nat → Int32)) : Option (Int32 × Int32 × (Nat → Int32) × (Nat → Int32) × (Nat → Int32) × (Nat → Int32) × (Nat → Int32) × (Nat → Int32)) :=
  f_X11_knows_L2 v g_fuel (0 : Int32) backX backY left top wide high original turn
def f_X11_isOriginal (wide : (Nat → Int32)) (original : (Nat → Int32)) (i1 : Int32) : Option (Int32) :=
  g_rd wide 24 i1 fun x1 =>
  if x1 ≤ 0 then
  (some (0 : Int32))
  else
  (g_rd original 24 i1 fun x2 =>
  if 0 ≤ x2 then
  (some (0 : Int32))
  else
  (some (1 : Int32)))
def f_X11_trimLeft (backX : Int32) (backY : Int32) (v : (Nat → Int32)) (left : (Nat → Int32)) (top : (Nat → Int32)) (wide : (Nat → Int32)) (high : (Nat → Int32)) (original : (Nat → Int32)) (turn : (Nat → Int32)) (i1 : Int32) : Option (Int32 × Int32 × Int32 × (Nat → Int32) × (Nat → Int32) × (Nat → Int32) × (Nat → Int32) × (Nat → Int32) × (Nat → Int32)) :=
  (f_X11_isSprite v i1).bind fun r1 =>
  if r1 = 0 then
  (some ((-1 : Int32), backX, backY, left, top, wide, high, original, turn))
  else
  ((f_X11_knows backX backY v left top wide high original turn).bind fun r2 =>
  g_rd r2.2.2.2.2.1 24 i1 fun x3 =>
  if x3 = 0 then
  (some ((-4 : Int32), r2.1, r2.2.1, r2.2.2.1, r2.2.2.2.1, r2.2.2.2.2.1, r2.2.2.2.2.2.1, r2.2.2.2.2.2.2.1, r2.2.2.2.2.2.2.2))
  else
  (g_rd r2.2.2.1 24 i1 fun x4 =>
  some (x4, r2.1, r2.2.1, r2.2.2.1, r2.2.2.2.1, r2.2.2.2.2.1, r2.2.2.2.2.2.1, r2.2.2.2.2.2.2.1, r2.2.2.2.2.2.2.2)))
def f_X11_trimTop (backX : Int32) (backY : Int32) (v : (Nat → Int32)) (left : (Nat → Int32)) (top : (Nat → Int32)) (wide : (Nat → Int32)) (high : (Nat → Int32)) (original : (Nat → Int32)) (turn : (Nat → Int32)) (i1 : Int32) : Option (Int32 × Int32 × Int32 × (Nat → Int32) × (Nat → Int32) × (Nat → Int32) × (Nat → Int32) × (Nat → Int32) × (Nat → Int32)) :=
  (f_X11_isSprite v i1).bind fun r1 =>
  if r1 = 0 then
  (some ((-1 : Int32), backX, backY, left, top, wide, high, original, turn))
  else
  ((f_X11_knows backX backY v left top wide high original turn).bind fun r2 =>
  g_rd r2.2.2.2.2.1 24 i1 fun x3 =>
  if x3 = 0 then
  (some ((-4 : Int32), r2.1, r2.2.1, r2.2.2.1, r2.2.2.2.1, r2.2.2.2.2.1, r2.2.2.2.2.2.1, r2.2.2.2.2.2.2.1, r2.2.2.2.2.2.2.2))
  else
  (g_rd r2.2.2.2.1 24 i1 fun x4 =>
  some (x4, r2.1, r2.2.1, r2.2.2.1, r2.2.2.2.1, r2.2.2.2.2.1, r2.2.2.2.2.2.1, r2.2.2.2.2.2.2.1, r2.2.2.2.2.2.2.2)))
def f_X11_trimWidth (backX : Int32) (backY : Int32) (v : (Nat → Int32)) (left : (Nat → Int32)) (top : (Nat → Int32)) (wide : (Nat → Int32)) (high : (Nat → Int32)) (original : (Nat → Int32)) (turn : (Nat → Int32)) (i1 : Int32) : Option (Int32 × Int32 × Int32 × (Nat → Int32) × (Nat → Int32) × (Nat → Int32) × (Nat → Int32) × (Nat → Int32) × (Nat → Int32)) :=
  (f_X11_isSprite v i1).bind fun r1 =>
  if r1 = 0 then
  (some ((-1 : Int32), backX, backY, left, top, wide, high, original, turn))
  else
  ((f_X11_knows backX backY v left top wide high original turn).bind fun r2 =>
  g_rd r2.2.2.2.2.1 24 i1 fun x3 =>
  some (x3, r2.1, r2.2.1, r2.2.2.1, r2.2.2.2.1, r2.2.2.2.2.1, r2.2.2.2.2.2.1, r2.2.2.2.2.2.2.1, r2.2.2.2.2.2.2.2))
def f_X11_trimHeight (backX : Int32) (backY : Int32) (v : (Nat → Int32)) (left : (Nat → Int32)) (top : (Nat → Int32)) (wide : (Nat → Int32)) (high : (Nat → Int32)) (original : (Nat → Int32)) (turn : (Nat → Int32)) (i1 : Int32) : Option (Int32 × Int32 × Int32 × (Nat → Int32) × (Nat → Int32) × (Nat → Int32) × (Nat → Int32) × (Nat → Int32) × (Nat → Int32)) :=
  (f_X11_isSprite v i1).bind fun r1 =>
  if r1 = 0 then
  (some ((-1 : Int32), backX, backY, left, top, wide, high, original, turn))
  else
  ((f_X11_knows backX backY v left top wide high original turn).bind fun r2 =>
  g_rd r2.2.2.2.2.2.1 24 i1 fun x3 =>
  some (x3, r2.1, r2.2.1, r2.2.2.1, r2.2.2.2.1, r2.2.2.2.2.1, r2.2.2.2.2.2.1, r2.2.2.2.2.2.2.1, r2.2.2.2.2.2.2.2))
def f_X11_originalOf (backX : Int32) (backY : Int32) (v : (Nat → Int32)) (left : (Nat → Int32)) (top : (Nat → Int32)) (wide : (Nat → Int32)) (high : (Nat → Int32)) (original : (Nat → Int32)) (turn : (Nat → Int32)) (i1 : Int32) : Option (Int32 × Int32 × Int32 × (Nat → Int32) × (Nat → Int32) × (Nat → Int32) × (Nat → Int32) × (Nat → Int32) × (Nat → Int32)) :=
  (f_X11_isSprite v i1).bind fun r1 =>
  if r1 = 0 then
  (some ((-1 : Int32), backX, backY, left, top, wide, high, original, turn))
  else
  ((f_X11_knows backX backY v left top wide high original turn).bind fun r2 =>
  g_rd r2.2.2.2.2.2.2.1 24 i1 fun x3 =>
  if 0 ≤ x3 then
  (g_rd r2.2.2.2.2.2.2.1 24 i1 fun x4 =>
  some (x4, r2.1, r2.2.1, r2.2.2.1, r2.2.2.2.1, r2.2.2.2.2.1, r2.2.2.2.2.2.1, r2.2.2.2.2.2.2.1, r2.2.2.2.2.2.2.2))
  else
  (some ((-4 : Int32), r2.1, r2.2.1, r2.2.2.1, r2.2.2.2.1, r2.2.2.2.2.1, r2.2.2.2.2.2.1, r2.2.2.2.2.2.2.1, r2.2.2.2.2.2.2.2)))
def f_X11_orientationOf (backX : Int32) (backY : Int32) (v : (Nat → Int32)) (left : (Nat → Int32)) (top : (Nat → Int32)) (wide : (Nat → Int32)) (high : (Nat → Int32)) (original : (Nat → Int32)) (turn : (Nat → Int32)) (i1 : Int32) : Option (Int32 × Int32 × Int32 × (Nat → Int32) × (Nat → Int32) × (Nat → Int32) × (Nat → Int32) × (Nat → Int32) × (Nat → Int32)) :=
  (f_X11_isSprite v i1).bind fun r1 =>
  if r1 = 0 then
  (some ((-1 : Int32), backX, backY, left, top, wide, high, original, turn))
  else
  ((f_X11_knows backX backY v left top wide high original turn).bind fun r2 =>
  g_rd r2.2.2.2.2.2.2.1 24 i1 fun x3 =>
  if 0 ≤ x3 then
  (g_rd r2.2.2.2.2.2.2.2 24 i1 fun x4 =>
  some (x4, r2.1, r2.2.1, r2.2.2.1, r2.2.2.2.1, r2.2.2.2.2.1, r2.2.2.2.2.2.1, r2.2.2.2.2.2.2.1, r2.2.2.2.2.2.2.2))
  else
  (some ((-4 : Int32), r2.1, r2.2.1, r2.2.2.1, r2.2.2.2.1, r2.2.2.2.2.1, r2.2.2.2.2.2.1, r2.2.2.2.2.2.2.1, r2.2.2.2.2.2.2.2)))
def f_X11_setPageSize (pasts : Int32) (v : (Nat → Int32)) (past : (Nat → Int32)) (i1 : Int32) (i2 : Int32) : Option (Int32 × Int32 × (Nat → Int32) × (Nat → Int32)) :=
  if (f_X11_in i1 (4 : Int32) (32 : Int32)) = 0 then
  (some ((-1 : Int32), pasts, v, past))
  else
  (if (f_X11_in i2 (4 : Int32) (32 : Int32)) = 0 then
  (some ((-1 : Int32), pasts, v, past))
  else
  (g_rd v 1748 (2 : Int32) fun x1 =>
  (f_X11_sets pasts v past (1 : Int32) i1).bind fun r2 =>
  g_bd (x1 + ((100 : Int32) * r2.1)) fun x3 =>
  g_wr r2.2.2.1 1748 (2 : Int32) i2 fun f4 =>
  some (x3, r2.2.1, f4, r2.2.2.2)))
def f_X11_setPageLimit (pasts : Int32) (v : (Nat → Int32)) (past : (Nat → Int32)) (i1 : Int32) : Option (Int32 × Int32 × (Nat → Int32) × (Nat → Int32)) :=
  if (f_X11_in i1 (1 : Int32) (4 : Int32)) = 0 then
  (some ((-1 : Int32), pasts, v, past))
  else
  ((f_X11_sets pasts v past (3 : Int32) i1).bind fun r1 =>
  some (r1.1, r1.2.1, r1.2.2.1, r1.2.2.2))
def f_X11_setMargins (pasts : Int32) (v : (Nat → Int32)) (past : (Nat → Int32)) (i1 : Int32) (i2 : Int32) (i3 : Int32) : Option (Int32 × Int32 × (Nat → Int32) × (Nat → Int32)) :=
  if (f_X11_in i1 (0 : Int32) (3 : Int32)) = 0 then
  (some ((-1 : Int32), pasts, v, past))
  else
  (if (f_X11_in i2 (0 : Int32) (3 : Int32)) = 0 then
  (some ((-1 : Int32), pasts, v, past))
  else
  (if (f_X11_in i3 (0 : Int32) (2 : Int32)) = 0 then
  (some ((-1 : Int32), pasts, v, past))
  else
  (g_rd v 1748 (5 : Int32) fun x1 =>
  g_rd v 1748 (6 : Int32) fun x2 =>
  g_bd (((10 : Int32) * x1) + x2) fun x3 =>
  (f_X11_sets pasts v past (4 : Int32) i1).bind fun r4 =>
  g_bd (x3 + ((100 : Int32) * r4.1)) fun x5 =>
  g_wr r4.2.2.1 1748 (5 : Int32) i2 fun f6 =>
  g_wr f6 1748 (6 : Int32) i3 fun f7 =>
  some (x5, r4.2.1, f7, r4.2.2.2))))
def f_X11_setTrimming (pasts : Int32) (v : (Nat → Int32)) (past : (Nat → Int32)) (i1 : Int32) : Option (Int32 × Int32 × (Nat → Int32) × (Nat → Int32)) :=
  g_bd (if i1 = 0 then (0 : Int32) else (1 : Int32)) fun x1 =>
  (f_X11_sets pasts v past (7 : Int32) x1).bind fun r2 =>
  some (r2.1, r2.2.1, r2.2.2.1, r2.2.2.2)
def f_X11_setMatching (pasts : Int32) (v : (Nat → Int32)) (past : (Nat → Int32)) (i1 : Int32) : Option (Int32 × Int32 × (Nat → Int32) × (Nat → Int32)) :=
  if (f_X11_in i1 (0 : Int32) (3 : Int32)) = 0 then
  (some ((-1 : Int32), pasts, v, past))
  else
  ((f_X11_sets pasts v past (8 : Int32) i1).bind fun r1 =>
  some (r1.1, r1.2.1, r1.2.2.1, r1.2.2.2))
def f_X11_setRotation (pasts : Int32) (v : (Nat → Int32)) (past : (Nat → Int32)) (i1 : Int32) : Option (Int32 × Int32 × (Nat → Int32) × (Nat → Int32)) :=
  g_bd (if i1 = 0 then (0 : Int32) else (1 : Int32)) fun x1 =>
  (f_X11_sets pasts v past (9 : Int32) x1).bind fun r2 =>
  some (r2.1, r2.2.1, r2.2.2.1, r2.2.2.2)
def f_X11_setGrouped (pasts : Int32) (v : (Nat → Int32)) (past : (Nat → Int32)) (i1 : Int32) : Option (Int32 × Int32 × (Nat → Int32) × (Nat → Int32)) :=
  g_bd (if i1 = 0 then (0 : Int32) else (1 : Int32)) fun x1 =>
  (f_X11_sets pasts v past (10 : Int32) x1).bind fun r2 =>
  some (r2.1, r2.2.1, r2.2.2.1, r2.2.2.2)
def f_X11_setOrder (pasts : Int32) (v : (Nat → Int32)) (past : (Nat → Int32)) (i1 : Int32) : Option (Int32 × Int32 × (Nat → Int32) × (Nat → Int32)) :=
  if (f_X11_in i1 (0 : Int32) (3 : Int32)) = 0 then
  (some ((-1 : Int32), pasts, v, past))
  else
  ((f_X11_sets pasts v past (11 : Int32) i1).bind fun r1 =>
  some (r1.1, r1.2.1, r1.2.2.1, r1.2.2.2))
def f_X11_setWay (pasts : Int32) (v : (Nat → Int32)) (past : (Nat → Int32)) (i1 : Int32) : Option (Int32 × Int32 × (Nat → Int32) × (Nat → Int32)) :=
  if (f_X11_in i1 (0 : Int32) (3 : Int32)) = 0 then
  (some ((-1 : Int32), pasts, v, past))
  else
  ((f_X11_sets pasts v past (12 : Int32) i1).bind fun r1 =>
  some (r1.1, r1.2.1, r1.2.2.1, r1.2.2.2))
def f_X11_fieldWidth (v : (Nat → Int32)) : Option (Int32) :=
  g_rd v 1748 (1 : Int32) fun x1 =>
  g_rd v 1748 (5 : Int32) fun x2 =>
  g_rd v 1748 (4 : Int32) fun x3 =>
  some ((x1 - ((2 : Int32) * x2)) + x3)
def f_X11_fieldHeight (v : (Nat → Int32)) : Option (Int32) :=
  g_rd v 1748 (2 : Int32) fun x1 =>
  g_rd v 1748 (5 : Int32) fun x2 =>
  g_rd v 1748 (4 : Int32) fun x3 =>
  some ((x1 - ((2 : Int32) * x2)) + x3)
def f_X11_imageWidth (wide : (Nat → Int32)) (high : (Nat → Int32)) (i1 : Int32) (i2 : Int32) : Option (Int32) :=
  if i2 = (1 : Int32) then
  (g_rd high 24 i1 fun x1 =>
  some x1)
  else
  (g_rd wide 24 i1 fun x2 =>
  some x2)
def f_X11_imageHeight (wide : (Nat → Int32)) (high : (Nat → Int32)) (i1 : Int32) (i2 : Int32) : Option (Int32) :=
  if i2 = (1 : Int32) then
  (g_rd wide 24 i1 fun x1 =>
  some x1)
  else
  (g_rd high 24 i1 fun x2 =>
  some x2)
def f_X11_boxWidth (v : (Nat → Int32)) (wide : (Nat → Int32)) (high : (Nat → Int32)) (i1 : Int32) (i2 : Int32) : Option (Int32) :=
  (f_X11_imageWidth wide high i1 i2).bind fun r1 =>
  g_rd v 1748 (6 : Int32) fun x2 =>
  g_rd v 1748 (4 : Int32) fun x3 =>
  some ((r1 + ((2 : Int32) * x2)) + x3)
def f_X11_boxHeight (v : (Nat → Int32)) (wide : (Nat → Int32)) (high : (Nat → Int32)) (i1 : Int32) (i2 : Int32) : Option (Int32) :=
  (f_X11_imageHeight wide high i1 i2).bind fun r1 =>
  g_rd v 1748 (6 : Int32) fun x2 =>
  g_rd v 1748 (4 : Int32) fun x3 =>
  some ((r1 + ((2 : Int32) * x2)) + x3)
def f_X11_boxesOf_L39 (v : (Nat → Int32)) (x1 : Int32) (k126_20 : Int32 → (Nat → Int32) → (Nat → Int32) → (Nat → Int32) → (Nat → Int32) → Option (Int32 × (Nat → Int32) × (Nat → Int32) × (Nat → Int32) × (Nat → Int32))) : Nat → Int32 → (Nat → Int32) → (Nat → Int32) → (Nat → Int32) → (Nat → Int32) → Option (Int32 × (Nat → Int32) × (Nat → Int32) × (Nat → Int32) × (Nat → Int32))
  | 0, _, _, _, _, _ => none
  | n+1, x33, f34, f35, f36, f37 =>
  if x33 ≤ 0 then
  (k126_20 x33 f34 f35 f36 f37)
  else
  (g_rd f35 24 (x33 - (1 : Int32)) fun x38 =>
  g_rd v 1748 (f_X11_at x1 (5 : Int32)) fun x39 =>
  if x38 ≤ x39 then
  (k126_20 x33 f34 f35 f36 f37)
  else
  (g_rd f34 24 (x33 - (1 : Int32)) fun x40 =>
  g_wr f34 24 x33 x40 fun f41 =>
  g_rd f35 24 (x33 - (1 : Int32)) fun x42 =>
  g_wr f35 24 x33 x42 fun f43 =>
  g_rd f36 24 (x33 - (1 : Int32)) fun x44 =>
  g_wr f36 24 x33 x44 fun f45 =>
  g_rd f37 24 (x33 - (1 : Int32)) fun x46 =>
  g_wr f37 24 x33 x46 fun f47 =>
  g_bd (x33 + (-1)) fun x48 =>
  f_X11_boxesOf_L39 v x1 k126_20 n x48 f41 f43 f45 f47))
def f_X11_boxesOf_L7 (v : (Nat → Int32)) (wide : (Nat → Int32)) (high : (Nat → Int32)) (i1 : Int32) : Nat → Int32 → Int32 → (Nat → Int32) → (Nat → Int32) → (Nat → Int32) → (Nat → Int32) → Option (Int32 × (Nat → Int32) × (Nat → Int32) × (Nat → Int32) × (Nat → Int32))
  | 0, _, _, _, _, _, _ => none
  | n+1, x1, x2, f3, f4, f5, f6 =>
  g_rd v 1748 (0 : Int32) fun x7 =>
  if x7 ≤ x1 then
  (some (x2, f3, f4, f5, f6))
  else
  (g_rd v 1748 (f_X11_at x1 (3 : Int32)) fun x8 =>
  g_jn (fun (x9 : Int32) (f10 : Nat → Int32) (f11 : Nat → Int32) (f12 : Nat → Int32) (f13 : Nat → Int32) =>
  g_bd (x1 + 1) fun x15 =>
  f_X11_boxesOf_L7 v wide high i1 n x15 x9 f10 f11 f12 f13) fun j212_13 =>
  if x8 = i1 then
  (g_jn (fun (x16 : Int32) (f17 : Nat → Int32) (f18 : Nat → Int32) (f19 : Nat → Int32) (f20 : Nat → Int32) =>
  g_rd v 1748 (f_X11_at x1 (4 : Int32)) fun x22 =>
  g_wr f17 24 x16 x22 fun f23 =>
  g_rd v 1748 (f_X11_at x1 (5 : Int32)) fun x24 =>
  g_wr f18 24 x16 x24 fun f25 =>
  g_rd v 1748 (f_X11_at x1 (6 : Int32)) fun x26 =>
  (f_X11_boxWidth v wide high x1 x26).bind fun r27 =>
  g_wr f19 24 x16 r27 fun f28 =>
  g_rd v 1748 (f_X11_at x1 (6 : Int32)) fun x29 =>
  (f_X11_boxHeight v wide high x1 x29).bind fun r30 =>
  g_wr f20 24 x16 r30 fun f31 =>
  g_bd (x2 + (1 : Int32)) fun x32 =>
  j212_13 x32 f23 f25 f28 f31) fun k126_20 =>
  f_X11_boxesOf_L39 v x1 k126_20 g_fuel x2 f3 f4 f5 f6)
  else
  (j212_13 x2 f3 f4 f5 f6))
def f_X11_boxesOf (v : (Nat → Int32)) (wide : (Nat → Int32)) (high : (Nat → Int32)) (boxX : (Nat → Int32)) (boxY : (Nat → Int32)) (boxW : (Nat → Int32)) (boxH : (Nat → Int32)) (i1 : Int32) : Option (Int32 × (Nat → Int32) × (Nat → Int32) × (Nat → Int32) × (Nat → Int32)) :=
  f_X11_boxesOf_L7 v wide high i1 g_fuel (0 : Int32) (0 : Int32) boxX boxY boxW boxH
def f_X11_isHeld_L6 (boxes : Int32) (boxX : (Nat → Int32)) (boxY : (Nat → Int32)) (boxW : (Nat → Int32)) (boxH : (Nat → Int32)) (i1 : Int32) (i2 : Int32) (i3 : Int32) : Nat → Int32 → Int32 → Option (Int32)
  | 0, _, _ => none
  | n+1, x1, x2 =>
  if boxes ≤ x2 then
  (g_z x1 <|
  some x1)
  else
  (if x1 = 0 then
  (g_rd boxX 24 x2 fun x4 =>
  g_rd boxX 24 x2 fun x5 =>
  g_rd boxW 24 x2 fun x6 =>
  g_jn (fun (x7 : Int32) =>
  g_bd (x2 + 1) fun x9 =>
  f_X11_isHeld_L6 boxes boxX boxY boxW boxH i1 i2 i3 n x7 x9) fun j86_7 =>
  g_jn (j86_7 (0 : Int32)) fun j85_9 =>
  if (f_X11_in i1 x4 ((x5 + x6) - (1 : Int32))) = 0 then
  (j85_9)
  else
  (g_rd boxY 24 x2 fun x11 =>
  if i3 ≤ x11 then
  (j85_9)
  else
  (g_rd boxY 24 x2 fun x12 =>
  g_rd boxH 24 x2 fun x13 =>
  if (x12 + x13) ≤ i2 then
  (j85_9)
  else
  (j86_7 (1 : Int32)))))
  else
  (g_z x1 <|
  some x1))
def f_X11_isHeld (boxes : Int32) (boxX : (Nat → Int32)) (boxY : (Nat → Int32)) (boxW : (Nat → Int32)) (boxH : (Nat → Int32)) (i1 : Int32) (i2 : Int32) (i3 : Int32) : Option (Int32) :=
  f_X11_isHeld_L6 boxes boxX boxY boxW boxH i1 i2 i3 g_fuel (0 : Int32) (0 : Int32)
def f_X11_isBehind (freeAtX : (Nat → Int32)) (freeAtY : (Nat → Int32)) (freeW : (Nat → Int32)) (i1 : Int32) (i2 : Int32) (i3 : Int32) (i4 : Int32) : Option (Int32) :=
  g_rd freeAtY 2000 i1 fun x1 =>
  if i3 < x1 then
  (some (1 : Int32))
  else
  (g_rd freeAtY 2000 i1 fun x2 =>
  if x2 = i3 then
  (g_rd freeAtX 2000 i1 fun x3 =>
  if i2 < x3 then
  (some (1 : Int32))
  else
  (g_rd freeAtX 2000 i1 fun x4 =>
  if x4 = i2 then
  (g_rd freeW 2000 i1 fun x5 =>
  if x5 ≤ i4 then
  (some (0 : Int32))
  else
  (some (1 : Int32)))
  else
  (some (0 : Int32))))
  else
  (some (0 : Int32)))
def f_X11_offers_L49 (i1 : Int32) (i2 : Int32) (i3 : Int32) (k140_8 : Int32 → (Nat → Int32) → (Nat → Int32) → (Nat → Int32) → (Nat → Int32) → Option (Int32 × (Nat → Int32) × (Nat → Int32) × (Nat → Int32) × (Nat → Int32))) : Nat → Int32 → (Nat → Int32) → (Nat → Int32) → (Nat → Int32) → (Nat → Int32) → Option (Int32 × (Nat → Int32) × (Nat → Int32) × (Nat → Int32) × (Nat → Int32))
  | 0, _, _, _, _, _ => none
  | n+1, x17, f18, f19, f20, f21 =>
  if x17 ≤ 0 then
  (k140_8 x17 f18 f19 f20 f21)
  else
  ((f_X11_isBehind f18 f19 f20 (x17 - (1 : Int32)) i1 i3 (i2 - i1)).bind fun r22 =>
  if r22 = 0 then
  (k140_8 x17 f18 f19 f20 f21)
  else
  (g_rd f18 2000 (x17 - (1 : Int32)) fun x23 =>
  g_wr f18 2000 x17 x23 fun f24 =>
  g_rd f19 2000 (x17 - (1 : Int32)) fun x25 =>
  g_wr f19 2000 x17 x25 fun f26 =>
  g_rd f20 2000 (x17 - (1 : Int32)) fun x27 =>
  g_wr f20 2000 x17 x27 fun f28 =>
  g_rd f21 2000 (x17 - (1 : Int32)) fun x29 =>
  g_wr f21 2000 x17 x29 fun f30 =>
  g_bd (x17 + (-1)) fun x31 =>
  f_X11_offers_L49 i1 i2 i3 k140_8 n x31 f24 f26 f28 f30))
def f_X11_offers (boxes : Int32) (frees : Int32) (v : (Nat → Int32)) (boxX : (Nat → Int32)) (boxY : (Nat → Int32)) (boxW : (Nat → Int32)) (boxH : (Nat → Int32)) (freeAtX : (Nat → Int32)) (freeAtY : (Nat → Int32)) (freeW : (Nat → Int32)) (freeH : (Nat → Int32)) (i1 : Int32) (i2 : Int32) (i3 : Int32) (i4 : Int32) : Option (Int32 × (Nat → Int32) × (Nat → Int32) × (Nat → Int32) × (Nat → Int32)) :=
  if i4 ≤ i3 then
  (some (frees, freeAtX, freeAtY, freeW, freeH))
  else
  (g_jn ((f_X11_fieldWidth v).bind fun r2 =>
  g_jn (g_jn (fun (x4 : Int32) (f5 : Nat → Int32) (f6 : Nat → Int32) (f7 : Nat → Int32) (f8 : Nat → Int32) =>
  g_wr f5 2000 x4 i1 fun f10 =>
  g_wr f6 2000 x4 i3 fun f11 =>
  g_bd (i2 - i1) fun x12 =>
  g_wr f7 2000 x4 x12 fun f13 =>
  g_bd (i4 - i3) fun x14 =>
  g_wr f8 2000 x4 x14 fun f15 =>
  g_bd (frees + (1 : Int32)) fun x16 =>
  some (x16, f10, f11, f13, f15)) fun k140_8 =>
  f_X11_offers_L49 i1 i2 i3 k140_8 g_fuel frees freeAtX freeAtY freeW freeH) fun j43_2 =>
  if r2 ≤ i2 then
  (j43_2)
  else
  ((f_X11_isHeld boxes boxX boxY boxW boxH i2 i3 i4).bind fun r32 =>
  if r32 = 0 then
  (some (frees, freeAtX, freeAtY, freeW, freeH))
  else
  (j43_2))) fun j23_0 =>
  if i1 ≤ 0 then
  (j23_0)
  else
  ((f_X11_isHeld boxes boxX boxY boxW boxH (i1 - (1 : Int32)) i3 i4).bind fun r33 =>
  if r33 = 0 then
  (some (frees, freeAtX, freeAtY, freeW, freeH))
  else
  (j23_0)))
def f_X11_between_L5 (boxes : Int32) (v : (Nat → Int32)) (boxX : (Nat → Int32)) (boxY : (Nat → Int32)) (boxW : (Nat → Int32)) (boxH : (Nat → Int32)) (i1 : Int32) (i2 : Int32) (k103_6 : Int32 → Int32 → (Nat → Int32) → (Nat → Int32) → (Nat → Int32) → (Nat → Int32) → Option (Int32 × (Nat → Int32) × (Nat → Int32) × (Nat → Int32) × (Nat → Int32))) : Nat → Int32 → Int32 → Int32 → (Nat → Int32) → (Nat → Int32) → (Nat → Int32) → (Nat → Int32) → Option (Int32 × (Nat → Int32) × (Nat → Int32) × (Nat → Int32) × (Nat → Int32))
  | 0, _, _, _, _, _, _, _ => none
  | n+1, x10, x11, x12, f13, f14, f15, f16 =>
  if boxes ≤ x11 then
  (k103_6 x10 x12 f13 f14 f15 f16)
  else
  (g_rd boxX 24 x11 fun x17 =>
  g_jn (fun (x18 : Int32) (x19 : Int32) (f20 : Nat → Int32) (f21 : Nat → Int32) (f22 : Nat → Int32) (f23 : Nat → Int32) =>
  g_bd (x11 + 1) fun x25 =>
  f_X11_between_L5 boxes v boxX boxY boxW boxH i1 i2 k103_6 n x18 x25 x19 f20 f21 f22 f23) fun j97_23 =>
  if i2 ≤ x17 then
  (j97_23 x10 x12 f13 f14 f15 f16)
  else
  (g_rd boxX 24 x11 fun x26 =>
  g_rd boxW 24 x11 fun x27 =>
  if (x26 + x27) ≤ i1 then
  (j97_23 x10 x12 f13 f14 f15 f16)
  else
  (g_rd boxY 24 x11 fun x28 =>
  (f_X11_offers boxes x12 v boxX boxY boxW boxH f13 f14 f15 f16 i1 i2 x10 x28).bind fun r29 =>
  g_rd boxY 24 x11 fun x30 =>
  g_rd boxH 24 x11 fun x31 =>
  g_jn (fun (x32 : Int32) =>
  j97_23 x32 r29.1 r29.2.1 r29.2.2.1 r29.2.2.2.1 r29.2.2.2.2) fun j96_32 =>
  if (x30 + x31) ≤ x10 then
  (j96_32 x10)
  else
  (g_rd boxY 24 x11 fun x34 =>
  g_rd boxH 24 x11 fun x35 =>
  j96_32 (x34 + x35)))))
def f_X11_between (boxes : Int32) (frees : Int32) (v : (Nat → Int32)) (boxX : (Nat → Int32)) (boxY : (Nat → Int32)) (boxW : (Nat → Int32)) (boxH : (Nat → Int32)) (freeAtX : (Nat → Int32)) (freeAtY : (Nat → Int32)) (freeW : (Nat → Int32)) (freeH : (Nat → Int32)) (i1 : Int32) (i2 : Int32) : Option (Int32 × (Nat → Int32) × (Nat → Int32) × (Nat → Int32) × (Nat → Int32)) :=
  g_jn (fun (x1 : Int32) (x2 : Int32) (f3 : Nat → Int32) (f4 : Nat → Int32) (f5 : Nat → Int32) (f6 : Nat → Int32) =>
  (f_X11_fieldHeight v).bind fun r8 =>
  (f_X11_offers boxes x2 v boxX boxY boxW boxH f3 f4 f5 f6 i1 i2 x1 r8).bind fun r9 =>
  some (r9.1, r9.2.1, r9.2.2.1, r9.2.2.2.1, r9.2.2.2.2)) fun k103_6 =>
  f_X11_between_L5 boxes v boxX boxY boxW boxH i1 i2 k103_6 g_fuel (0 : Int32) (0 : Int32) frees freeAtX freeAtY freeW freeH
def f_X11_freesOf_L131 (v : (Nat → Int32)) (r1 : Int32 × (Nat → Int32) × (Nat → Int32) × (Nat → Int32) × (Nat → Int32)) (r2 : Int32) (f7 : Nat → Int32) (f8 : Nat → Int32) (x10 : Int32) (k169_21 : Int32 → (Nat → Int32) → (Nat → Int32) → (Nat → Int32) → (Nat → Int32) → Option (Int32 × Int32 × (Nat → Int32) × (Nat → Int32) × (Nat → Int32) × (Nat → Int32) × (Nat → Int32) × (Nat → Int32) × (Nat → Int32) × (Nat → Int32) × (Nat → Int32) × (Nat → Int32))) : Nat → Int32 → Int32 → (Nat → Int32) → (Nat → Int32) → (Nat → Int32) → (Nat → Int32) → Option (Int32 × Int32 × (Nat → Int32) × (Nat → Int32) × (Nat → Int32) × (Nat → Int32) × (Nat → Int32) × (Nat → Int32) × (Nat → Int32) × (Nat → Int32) × (Nat → Int32) × (Nat → Int32))
  | 0, _, _, _, _, _, _ => none
  | n+1, x24, x25, f26, f27, f28, f29 =>
  if r2 < x24 then
  (k169_21 x25 f26 f27 f28 f29)
  else
  (g_rd f7 40 x10 fun x30 =>
  if x30 = 0 then
  (k169_21 x25 f26 f27 f28 f29)
  else
  (g_rd f8 40 x24 fun x31 =>
  g_jn (fun (x32 : Int32) (f33 : Nat → Int32) (f34 : Nat → Int32) (f35 : Nat → Int32) (f36 : Nat → Int32) =>
  g_bd (x24 + 1) fun x38 =>
  f_X11_freesOf_L131 v r1 r2 f7 f8 x10 k169_21 n x38 x32 f33 f34 f35 f36) fun j163_36 =>
  if x31 = 0 then
  (j163_36 x25 f26 f27 f28 f29)
  else
  ((f_X11_between r1.1 x25 v r1.2.1 r1.2.2.1 r1.2.2.2.1 r1.2.2.2.2 f26 f27 f28 f29 x10 x24).bind fun r39 =>
  j163_36 r39.1 r39.2.1 r39.2.2.1 r39.2.2.2.1 r39.2.2.2.2)))
def f_X11_freesOf_L121 (v : (Nat → Int32)) (r1 : Int32 × (Nat → Int32) × (Nat → Int32) × (Nat → Int32) × (Nat → Int32)) (r2 : Int32) (f7 : Nat → Int32) (f8 : Nat → Int32) : Nat → Int32 → Int32 → (Nat → Int32) → (Nat → Int32) → (Nat → Int32) → (Nat → Int32) → Option (Int32 × Int32 × (Nat → Int32) × (Nat → Int32) × (Nat → Int32) × (Nat → Int32) × (Nat → Int32) × (Nat → Int32) × (Nat → Int32) × (Nat → Int32) × (Nat → Int32) × (Nat → Int32))
  | 0, _, _, _, _, _, _ => none
  | n+1, x10, x11, f12, f13, f14, f15 =>
  if r2 ≤ x10 then
  (some (r1.1, x11, r1.2.1, r1.2.2.1, r1.2.2.2.1, r1.2.2.2.2, f12, f13, f14, f15, f7, f8))
  else
  (g_bd (x10 + (1 : Int32)) fun x16 =>
  g_jn (fun (x17 : Int32) (f18 : Nat → Int32) (f19 : Nat → Int32) (f20 : Nat → Int32) (f21 : Nat → Int32) =>
  g_bd (x10 + 1) fun x23 =>
  f_X11_freesOf_L121 v r1 r2 f7 f8 n x23 x17 f18 f19 f20 f21) fun k169_21 =>
  f_X11_freesOf_L131 v r1 r2 f7 f8 x10 k169_21 g_fuel x16 x11 f12 f13 f14 f15)
def f_X11_freesOf_L74 (r1 : Int32 × (Nat → Int32) × (Nat → Int32) × (Nat → Int32) × (Nat → Int32)) (k119_8 : (Nat → Int32) → (Nat → Int32) → Option (Int32 × Int32 × (Nat → Int32) × (Nat → Int32) × (Nat → Int32) × (Nat → Int32) × (Nat → Int32) × (Nat → Int32) × (Nat → Int32) × (Nat → Int32) × (Nat → Int32) × (Nat → Int32))) : Nat → Int32 → (Nat → Int32) → (Nat → Int32) → Option (Int32 × Int32 × (Nat → Int32) × (Nat → Int32) × (Nat → Int32) × (Nat → Int32) × (Nat → Int32) × (Nat → Int32) × (Nat → Int32) × (Nat → Int32) × (Nat → Int32) × (Nat → Int32))
  | 0, _, _, _ => none
  | n+1, x40, f41, f42 =>
  if r1.1 ≤ x40 then
  (k119_8 f41 f42)
  else
  (g_rd r1.2.1 24 x40 fun x43 =>
  g_rd r1.2.2.2.1 24 x40 fun x44 =>
  g_wrZ f41 40 (x43 + x44) (1 : Int32) fun f45 =>
  g_rd r1.2.1 24 x40 fun x46 =>
  g_wrZ f42 40 x46 (1 : Int32) fun f47 =>
  g_bd (x40 + 1) fun x48 =>
  f_X11_freesOf_L74 r1 k119_8 n x48 f45 f47)
def f_X11_freesOf_L29 (r2 : Int32) (k72_5 : (Nat → Int32) → (Nat → Int32) → Option (Int32 × Int32 × (Nat → Int32) × (Nat → Int32) × (Nat → Int32) × (Nat → Int32) × (Nat → Int32) × (Nat → Int32) × (Nat → Int32) × (Nat → Int32) × (Nat → Int32) × (Nat → Int32))) : Nat → Int32 → (Nat → Int32) → (Nat → Int32) → Option (Int32 × Int32 × (Nat → Int32) × (Nat → Int32) × (Nat → Int32) × (Nat → Int32) × (Nat → Int32) × (Nat → Int32) × (Nat → Int32) × (Nat → Int32) × (Nat → Int32) × (Nat → Int32))
  | 0, _, _, _ => none
  | n+1, x49, f50, f51 =>
  if (40 : Int32) ≤ x49 then
  (k72_5 f50 f51)
  else
  (g_bd (if x49 = 0 then (1 : Int32) else (0 : Int32)) fun x52 =>
  g_wrZ f50 40 x49 x52 fun f53 =>
  g_bd (if x49 = r2 then (1 : Int32) else (0 : Int32)) fun x54 =>
  g_wrZ f51 40 x49 x54 fun f55 =>
  g_bd (x49 + 1) fun x56 =>
  f_X11_freesOf_L29 r2 k72_5 n x56 f53 f55)
def f_X11_freesOf (v : (Nat → Int32)) (wide : (Nat → Int32)) (high : (Nat → Int32)) (boxX : (Nat → Int32)) (boxY : (Nat → Int32)) (boxW : (Nat → Int32)) (boxH : (Nat → Int32)) (freeAtX : (Nat → Int32)) (freeAtY : (Nat → Int32)) (freeW : (Nat → Int32)) (freeH : (Nat → Int32)) (begins : (Nat → Int32)) (ends : (Nat → Int32)) (i1 : Int32) : Option (Int32 × Int32 × (Nat → Int32) × (Nat → Int32) × (Nat → Int32) × (Nat → Int32) × (Nat → Int32) × (Nat → Int32) × (Nat → Int32) × (Nat → Int32) × (Nat → Int32) × (Nat → Int32)) :=
  (f_X11_boxesOf v wide high boxX boxY boxW boxH i1).bind fun r1 =>
  (f_X11_fieldWidth v).bind fun r2 =>
  if r2 ≤ 0 then
  (some (r1.1, (0 : Int32), r1.2.1, r1.2.2.1, r1.2.2.2.1, r1.2.2.2.2, freeAtX, freeAtY, freeW, freeH, begins, ends))
  else
  ((f_X11_fieldHeight v).bind fun r3 =>
  if 0 < r3 then
  (g_jn (fun (f4 : Nat → Int32) (f5 : Nat → Int32) =>
  g_jn (fun (f7 : Nat → Int32) (f8 : Nat → Int32) =>
  f_X11_freesOf_L121 v r1 r2 f7 f8 g_fuel (0 : Int32) (0 : Int32) freeAtX freeAtY freeW freeH) fun k119_8 =>
  f_X11_freesOf_L74 r1 k119_8 g_fuel (0 : Int32) f4 f5) fun k72_5 =>
  f_X11_freesOf_L29 r2 k72_5 g_fuel (0 : Int32) begins ends)
  else
  (some (r1.1, (0 : Int32), r1.2.1, r1.2.2.1, r1.2.2.2.1, r1.2.2.2.2, freeAtX, freeAtY, freeW, freeH, begins, ends)))
def f_X11_fits (freeW : (Nat → Int32)) (freeH : (Nat → Int32)) (i1 : Int32) (i2 : Int32) (i3 : Int32) : Option (Int32) :=
  g_rd freeW 2000 i1 fun x1 =>
  if x1 < i2 then
  (some (0 : Int32))
  else
  (g_rd freeH 2000 i1 fun x2 =>
  if x2 < i3 then
  (some (0 : Int32))
  else
  (some (1 : Int32)))
def f_X11_values (bestFree : Int32) (bestTurned : Int32) (bestFirst : Int32) (bestSecond : Int32) (v : (Nat → Int32)) (wide : (Nat → Int32)) (high : (Nat → Int32)) (freeAtX : (Nat → Int32)) (freeAtY : (Nat → Int32)) (freeW : (Nat → Int32)) (freeH : (Nat → Int32)) (i1 : Int32) (i2 : Int32) (i3 : Int32) : Option (Int32 × Int32 × Int32 × Int32) :=
  (f_X11_boxWidth v wide high i2 i3).bind fun r1 =>
  (f_X11_boxHeight v wide high i2 i3).bind fun r2 =>
  (f_X11_fits freeW freeH i1 r1 r2).bind fun r3 =>
  if r3 = 0 then
  (some (bestFree, bestTurned, bestFirst, bestSecond))
  else
  (g_rd freeW 2000 i1 fun x4 =>
  g_bd (x4 - r1) fun x5 =>
  g_rd freeH 2000 i1 fun x6 =>
  g_bd (x6 - r2) fun x7 =>
  g_bd (if x7 ≤ x5 then x7 else x5) fun x8 =>
  g_bd (if x7 ≤ x5 then x5 else x7) fun x9 =>
  g_rd v 1748 (12 : Int32) fun x10 =>
  g_jn (fun (x11 : Int32) =>
  g_rd v 1748 (12 : Int32) fun x13 =>
  g_jn (fun (x14 : Int32) =>
  g_jn (some (i1, i3, x11, x14)) fun j231_15 =>
  if bestFree < 0 then
  (j231_15)
  else
  (if x11 < bestFirst then
  (j231_15)
  else
  (if x11 = bestFirst then
  (if bestSecond ≤ x14 then
  (some (bestFree, bestTurned, bestFirst, bestSecond))
  else
  (j231_15))
  else
  (some (bestFree, bestTurned, bestFirst, bestSecond))))) fun j195_14 =>
  if x13 = 0 then
  (j195_14 x9)
  else
  (g_rd v 1748 (12 : Int32) fun x17 =>
  if x17 = (3 : Int32) then
  (g_rd freeAtX 2000 i1 fun x18 =>
  j195_14 x18)
  else
  (j195_14 x8))) fun j156_11 =>
  if x10 = 0 then
  (j156_11 x8)
  else
  (g_rd v 1748 (12 : Int32) fun x19 =>
  if x19 = (1 : Int32) then
  (j156_11 x9)
  else
  (g_rd v 1748 (12 : Int32) fun x20 =>
  if x20 = (2 : Int32) then
  (g_rd freeW 2000 i1 fun x21 =>
  g_rd freeH 2000 i1 fun x22 =>
  j156_11 ((x21 * x22) - (r1 * r2)))
  else
  (g_rd freeAtY 2000 i1 fun x23 =>
  j156_11 (x23 + r2)))))
def f_X11_placesOn_L12 (v : (Nat → Int32)) (wide : (Nat → Int32)) (high : (Nat → Int32)) (i2 : Int32) (r1 : Int32 × Int32 × (Nat → Int32) × (Nat → Int32) × (Nat → Int32) × (Nat → Int32) × (Nat → Int32) × (Nat → Int32) × (Nat → Int32) × (Nat → Int32) × (Nat → Int32) × (Nat → Int32)) (k51_5 : Int32 → Int32 → Int32 → Int32 → Option (Int32 × Int32 × Int32 × Int32 × Int32 × Int32 × Int32 × (Nat → Int32) × (Nat → Int32) × (Nat → Int32) × (Nat → Int32) × (Nat → Int32) × (Nat → Int32) × (Nat → Int32) × (Nat → Int32) × (Nat → Int32) × (Nat → Int32) × (Nat → Int32))) : Nat → Int32 → Int32 → Int32 → Int32 → Int32 → Option (Int32 × Int32 × Int32 × Int32 × Int32 × Int32 × Int32 × (Nat → Int32) × (Nat → Int32) × (Nat → Int32) × (Nat → Int32) × (Nat → Int32) × (Nat → Int32) × (Nat → Int32) × (Nat → Int32) × (Nat → Int32) × (Nat → Int32) × (Nat → Int32))
  | 0, _, _, _, _, _ => none
  | n+1, x17, x18, x19, x20, x21 =>
  if r1.2.1 ≤ x17 then
  (k51_5 x18 x19 x20 x21)
  else
  ((f_X11_values x18 x19 x20 x21 v wide high r1.2.2.2.2.2.2.1 r1.2.2.2.2.2.2.2.1 r1.2.2.2.2.2.2.2.2.1 r1.2.2.2.2.2.2.2.2.2.1 x17 i2 (0 : Int32)).bind fun r22 =>
  g_rd v 1748 (9 : Int32) fun x23 =>
  g_jn (fun (x24 : Int32) (x25 : Int32) (x26 : Int32) (x27 : Int32) =>
  g_bd (x17 + 1) fun x29 =>
  f_X11_placesOn_L12 v wide high i2 r1 k51_5 n x29 x24 x25 x26 x27) fun j45_27 =>
  if x23 = (1 : Int32) then
  ((f_X11_values r22.1 r22.2.1 r22.2.2.1 r22.2.2.2 v wide high r1.2.2.2.2.2.2.1 r1.2.2.2.2.2.2.2.1 r1.2.2.2.2.2.2.2.2.1 r1.2.2.2.2.2.2.2.2.2.1 x17 i2 (1 : Int32)).bind fun r30 =>
  j45_27 r30.1 r30.2.1 r30.2.2.1 r30.2.2.2)
  else
  (j45_27 r22.1 r22.2.1 r22.2.2.1 r22.2.2.2))
def f_X11_placesOn (bestTurned : Int32) (bestFirst : Int32) (bestSecond : Int32) (v : (Nat → Int32)) (wide : (Nat → Int32)) (high : (Nat → Int32)) (boxX : (Nat → Int32)) (boxY : (Nat → Int32)) (boxW : (Nat → Int32)) (boxH : (Nat → Int32)) (freeAtX : (Nat → Int32)) (freeAtY : (Nat → Int32)) (freeW : (Nat → Int32)) (freeH : (Nat → Int32)) (begins : (Nat → Int32)) (ends : (Nat → Int32)) (i1 : Int32) (i2 : Int32) : Option (Int32 × Int32 × Int32 × Int32 × Int32 × Int32 × Int32 × (Nat → Int32) × (Nat → Int32) × (Nat → Int32) × (Nat → Int32) × (Nat → Int32) × (Nat → Int32) × (Nat → Int32) × (Nat → Int32) × (Nat → Int32) × (Nat → Int32) × (Nat → Int32)) :=
  (f_X11_freesOf v wide high boxX boxY boxW boxH freeAtX freeAtY freeW freeH begins ends i1).bind fun r1 =>
  g_jn (fun (x2 : Int32) (x3 : Int32) (x4 : Int32) (x5 : Int32) =>
  if 0 ≤ x2 then
  (g_jn (fun (f7 : Nat → Int32) =>
  g_wr f7 1748 (f_X11_at i2 (3 : Int32)) i1 fun f9 =>
  g_rd r1.2.2.2.2.2.2.1 2000 x2 fun x10 =>
  g_wr f9 1748 (f_X11_at i2 (4 : Int32)) x10 fun f11 =>
  g_rd r1.2.2.2.2.2.2.2.1 2000 x2 fun x12 =>
  g_wr f11 1748 (f_X11_at i2 (5 : Int32)) x12 fun f13 =>
  g_wr f13 1748 (f_X11_at i2 (6 : Int32)) x3 fun f14 =>
  some ((1 : Int32), r1.1, r1.2.1, x2, x3, x4, x5, f14, r1.2.2.1, r1.2.2.2.1, r1.2.2.2.2.1, r1.2.2.2.2.2.1, r1.2.2.2.2.2.2.1, r1.2.2.2.2.2.2.2.1, r1.2.2.2.2.2.2.2.2.1, r1.2.2.2.2.2.2.2.2.2.1, r1.2.2.2.2.2.2.2.2.2.2.1, r1.2.2.2.2.2.2.2.2.2.2.2)) fun j86_7 =>
  if r1.1 = 0 then
  (g_rd v 1748 (f_X11_at i2 (2 : Int32)) fun x15 =>
  g_wr v 1748 ((14 : Int32) + i1) x15 fun f16 =>
  j86_7 f16)
  else
  (j86_7 v))
  else
  (some ((0 : Int32), r1.1, r1.2.1, x2, x3, x4, x5, v, r1.2.2.1, r1.2.2.2.1, r1.2.2.2.2.1, r1.2.2.2.2.2.1, r1.2.2.2.2.2.2.1, r1.2.2.2.2.2.2.2.1, r1.2.2.2.2.2.2.2.2.1, r1.2.2.2.2.2.2.2.2.2.1, r1.2.2.2.2.2.2.2.2.2.2.1, r1.2.2.2.2.2.2.2.2.2.2.2))) fun k51_5 =>
  f_X11_placesOn_L12 v wide high i2 r1 k51_5 g_fuel (0 : Int32) (-1 : Int32) bestTurned bestFirst bestSecond
def f_X11_isOpen (v : (Nat → Int32)) (wide : (Nat → Int32)) (high : (Nat → Int32)) (boxX : (Nat → Int32)) (boxY : (Nat → Int32)) (boxW : (Nat → Int32)) (boxH : (Nat → Int32)) (i1 : Int32) (i2 : Int32) : Option (Int32 × Int32 × (Nat → Int32) × (Nat → Int32) × (Nat → Int32) × (Nat → Int32)) :=
  (f_X11_boxesOf v wide high boxX boxY boxW boxH i1).bind fun r1 =>
  g_rd v 1748 (10 : Int32) fun x2 =>
  if x2 = 0 then
  (some ((1 : Int32), r1.1, r1.2.1, r1.2.2.1, r1.2.2.2.1, r1.2.2.2.2))
  else
  (if r1.1 = 0 then
  (some ((1 : Int32), r1.1, r1.2.1, r1.2.2.1, r1.2.2.2.1, r1.2.2.2.2))
  else
  (g_rd v 1748 ((14 : Int32) + i1) fun x3 =>
  g_rd v 1748 (f_X11_at i2 (2 : Int32)) fun x4 =>
  if x3 = x4 then
  (some ((1 : Int32), r1.1, r1.2.1, r1.2.2.1, r1.2.2.2.1, r1.2.2.2.2))
  else
  (some ((0 : Int32), r1.1, r1.2.1, r1.2.2.1, r1.2.2.2.1, r1.2.2.2.2))))
def f_X11_places_L4 (wide : (Nat → Int32)) (high : (Nat → Int32)) (i1 : Int32) (k49_18 : Int32 → Int32 → Int32 → Int32 → Int32 → Int32 → Int32 → (Nat → Int32) → (Nat → Int32) → (Nat → Int32) → (Nat → Int32) → (Nat → Int32) → (Nat → Int32) → (Nat → Int32) → (Nat → Int32) → (Nat → Int32) → (Nat → Int32) → (Nat → Int32) → Option (Int32 × Int32 × Int32 × Int32 × Int32 × Int32 × Int32 × (Nat → Int32) × (Nat → Int32) × (Nat → Int32) × (Nat → Int32) × (Nat → Int32) × (Nat → Int32) × (Nat → Int32) × (Nat → Int32) × (Nat → Int32) × (Nat → Int32) × (Nat → Int32))) : Nat → Int32 → Int32 → Int32 → Int32 → Int32 → Int32 → Int32 → Int32 → (Nat → Int32) → (Nat → Int32) → (Nat → Int32) → (Nat → Int32) → (Nat → Int32) → (Nat → Int32) → (Nat → Int32) → (Nat → Int32) → (Nat → Int32) → (Nat → Int32) → (Nat → Int32) → Option (Int32 × Int32 × Int32 × Int32 × Int32 × Int32 × Int32 × (Nat → Int32) × (Nat → Int32) × (Nat → Int32) × (Nat → Int32) × (Nat → Int32) × (Nat → Int32) × (Nat → Int32) × (Nat → Int32) × (Nat → Int32) × (Nat → Int32) × (Nat → Int32))
  | 0, _, _, _, _, _, _, _, _, _, _, _, _, _, _, _, _, _, _, _ => none
  | n+1, x31, x32, x33, x34, x35, x36, x37, x38, f39, f40, f41, f42, f43, f44, f45, f46, f47, f48, f49 =>
  g_rd f39 1748 (13 : Int32) fun x50 =>
  if x50 ≤ x32 then
  (k49_18 x31 x33 x34 x35 x36 x37 x38 f39 f40 f41 f42 f43 f44 f45 f46 f47 f48 f49)
  else
  (if x31 = 0 then
  ((f_X11_isOpen f39 wide high f40 f41 f42 f43 x32 i1).bind fun r51 =>
  g_jn (fun (x52 : Int32) (x53 : Int32) (x54 : Int32) (x55 : Int32) (x56 : Int32) (x57 : Int32) (x58 : Int32) (f59 : Nat → Int32) (f60 : Nat → Int32) (f61 : Nat → Int32) (f62 : Nat → Int32) (f63 : Nat → Int32) (f64 : Nat → Int32) (f65 : Nat → Int32) (f66 : Nat → Int32) (f67 : Nat → Int32) (f68 : Nat → Int32) (f69 : Nat → Int32) =>
  g_bd (x32 + 1) fun x71 =>
  f_X11_places_L4 wide high i1 k49_18 n x52 x71 x53 x54 x55 x56 x57 x58 f59 f60 f61 f62 f63 f64 f65 f66 f67 f68 f69) fun j42_69 =>
  g_jn (fun (x72 : Int32) (x73 : Int32) (x74 : Int32) (x75 : Int32) (x76 : Int32) (x77 : Int32) (f78 : Nat → Int32) (f79 : Nat → Int32) (f80 : Nat → Int32) (f81 : Nat → Int32) (f82 : Nat → Int32) (f83 : Nat → Int32) (f84 : Nat → Int32) (f85 : Nat → Int32) (f86 : Nat → Int32) (f87 : Nat → Int32) (f88 : Nat → Int32) =>
  j42_69 (0 : Int32) x72 x73 x74 x75 x76 x77 f78 f79 f80 f81 f82 f83 f84 f85 f86 f87 f88) fun j41_88 =>
  if r51.1 = 0 then
  (j41_88 r51.2.1 x34 x35 x36 x37 x38 f39 r51.2.2.1 r51.2.2.2.1 r51.2.2.2.2.1 r51.2.2.2.2.2 f44 f45 f46 f47 f48 f49)
  else
  ((f_X11_placesOn x36 x37 x38 f39 wide high r51.2.2.1 r51.2.2.2.1 r51.2.2.2.2.1 r51.2.2.2.2.2 f44 f45 f46 f47 f48 f49 x32 i1).bind fun r90 =>
  if r90.1 = 0 then
  (j41_88 r90.2.1 r90.2.2.1 r90.2.2.2.1 r90.2.2.2.2.1 r90.2.2.2.2.2.1 r90.2.2.2.2.2.2.1 r90.2.2.2.2.2.2.2.1 r90.2.2.2.2.2.2.2.2.1 r90.2.2.2.2.2.2.2.2.2.1 r90.2.2.2.2.2.2.2.2.2.2.1 r90.2.2.2.2.2.2.2.2.2.2.2.1 r90.2.2.2.2.2.2.2.2.2.2.2.2.1 r90.2.2.2.2.2.2.2.2.2.2.2.2.2.1 r90.2.2.2.2.2.2.2.2.2.2.2.2.2.2.1 r90.2.2.2.2.2.2.2.2.2.2.2.2.2.2.2.1 r90.2.2.2.2.2.2.2.2.2.2.2.2.2.2.2.2.1 r90.2.2.2.2.2.2.2.2.2.2.2.2.2.2.2.2.2)
  else
  (j42_69 (1 : Int32) r90.2.1 r90.2.2.1 r90.2.2.2.1 r90.2.2.2.2.1 r90.2.2.2.2.2.1 r90.2.2.2.2.2.2.1 r90.2.2.2.2.2.2.2.1 r90.2.2.2.2.2.2.2.2.1 r90.2.2.2.2.2.2.2.2.2.1 r90.2.2.2.2.2.2.2.2.2.2.1 r90.2.2.2.2.2.2.2.2.2.2.2.1 r90.2.2.2.2.2.2.2.2.2.2.2.2.1 r90.2.2.2.2.2.2.2.2.2.2.2.2.2.1 r90.2.2.2.2.2.2.2.2.2.2.2.2.2.2.1 r90.2.2.2.2.2.2.2.2.2.2.2.2.2.2.2.1 r90.2.2.2.2.2.2.2.2.2.2.2.2.2.2.2.2.1 r90.2.2.2.2.2.2.2.2.2.2.2.2.2.2.2.2.2)))
  else
  (k49_18 x31 x33 x34 x35 x36 x37 x38 f39 f40 f41 f42 f43 f44 f45 f46 f47 f48 f49))
def f_X11_places (boxes : Int32) (frees : Int32) (bestFree : Int32) (bestTurned : Int32) (bestFirst : Int32) (bestSecond : Int32) (v : (Nat → Int32)) (wide : (Nat → Int32)) (high : (Nat → Int32)) (boxX : (Nat → Int32)) (boxY : (Nat → Int32)) (boxW : (Nat → Int32)) (boxH : (Nat → Int32)) (freeAtX : (Nat → Int32)) (freeAtY : (Nat → Int32)) (freeW : (Nat → Int32)) (freeH : (Nat → Int32)) (begins : (Nat → Int32)) (ends : (Nat → Int32)) (i1 : Int32) : Option (Int32 × Int32 × Int32 × Int32 × Int32 × Int32 × Int32 × (Nat → Int32) × (Nat → Int32) × (Nat → Int32) × (Nat → Int32) × (Nat → Int32) × (Nat → Int32) × (Nat → Int32) × (Nat → Int32) × (Nat → Int32) × (Nat → Int32) × (Nat → Int32)) :=
  g_jn (fun (x1 : Int32) (x2 : Int32) (x3 : Int32) (x4 : Int32) (x5 : Int32) (x6 : Int32) (x7 : Int32) (f8 : Nat → Int32) (f9 : Nat → Int32) (f10 : Nat → Int32) (f11 : Nat → Int32) (f12 : Nat → Int32) (f13 : Nat → Int32) (f14 : Nat → Int32) (f15 : Nat → Int32) (f16 : Nat → Int32) (f17 : Nat → Int32) (f18 : Nat → Int32) =>
  if x1 = 0 then
  (g_rd f8 1748 (13 : Int32) fun x20 =>
  g_rd f8 1748 (3 : Int32) fun x21 =>
  if x21 ≤ x20 then
  (g_z x1 <|
  some (x1, x2, x3, x4, x5, x6, x7, f8, f9, f10, f11, f12, f13, f14, f15, f16, f17, f18))
  else
  (g_rd f8 1748 (13 : Int32) fun x23 =>
  (f_X11_placesOn x5 x6 x7 f8 wide high f9 f10 f11 f12 f13 f14 f15 f16 f17 f18 x23 i1).bind fun r24 =>
  g_rd r24.2.2.2.2.2.2.2.1 1748 (13 : Int32) fun x25 =>
  g_bd (if r24.1 = 0 then (0 : Int32) else (1 : Int32)) fun x26 =>
  g_bd (x25 + x26) fun x27 =>
  g_wr r24.2.2.2.2.2.2.2.1 1748 (13 : Int32) x27 fun f28 =>
  g_z r24.1 <|
  some (r24.1, r24.2.1, r24.2.2.1, r24.2.2.2.1, r24.2.2.2.2.1, r24.2.2.2.2.2.1, r24.2.2.2.2.2.2.1, f28, r24.2.2.2.2.2.2.2.2.1, r24.2.2.2.2.2.2.2.2.2.1, r24.2.2.2.2.2.2.2.2.2.2.1, r24.2.2.2.2.2.2.2.2.2.2.2.1, r24.2.2.2.2.2.2.2.2.2.2.2.2.1, r24.2.2.2.2.2.2.2.2.2.2.2.2.2.1, r24.2.2.2.2.2.2.2.2.2.2.2.2.2.2.1, r24.2.2.2.2.2.2.2.2.2.2.2.2.2.2.2.1, r24.2.2.2.2.2.2.2.2.2.2.2.2.2.2.2.2.1, r24.2.2.2.2.2.2.2.2.2.2.2.2.2.2.2.2.2)))
  else
  (g_z x1 <|
  some (x1, x2, x3, x4, x5, x6, x7, f8, f9, f10, f11, f12, f13, f14, f15, f16, f17, f18))) fun k49_18 =>
  f_X11_places_L4 wide high i1 k49_18 g_fuel (0 : Int32) (0 : Int32) boxes frees bestFree bestTurned bestFirst bestSecond v boxX boxY boxW boxH freeAtX freeAtY freeW freeH begins ends
def f_X11_isFirst (v : (Nat → Int32)) (wide : (Nat → Int32)) (high : (Nat → Int32)) (i1 : Int32) (i2 : Int32) : Option (Int32) :=
  g_rd v 1748 (11 : Int32) fun x1 =>
  g_jn (fun (x2 : Int32) (x3 : Int32) =>
  if 0 < x2 then
  (some (1 : Int32))
  else
  (if x2 = 0 then
  (if x3 < 0 then
  (some (0 : Int32))
  else
  (some (1 : Int32)))
  else
  (some (0 : Int32)))) fun j202_3 =>
  if x1 = (1 : Int32) then
  (g_rd wide 24 i1 fun x5 =>
  g_rd high 24 i1 fun x6 =>
  g_rd wide 24 i2 fun x7 =>
  g_rd high 24 i2 fun x8 =>
  g_bd ((x5 * x6) - (x7 * x8)) fun x9 =>
  j202_3 x9 (0 : Int32))
  else
  (g_rd v 1748 (11 : Int32) fun x10 =>
  if x10 = (2 : Int32) then
  (g_rd wide 24 i1 fun x11 =>
  g_rd high 24 i1 fun x12 =>
  g_jn (fun (x13 : Int32) =>
  g_rd wide 24 i2 fun x15 =>
  g_rd high 24 i2 fun x16 =>
  g_jn (fun (x17 : Int32) =>
  g_bd (x13 - x17) fun x19 =>
  g_rd wide 24 i1 fun x20 =>
  g_rd high 24 i1 fun x21 =>
  g_rd wide 24 i2 fun x22 =>
  g_rd high 24 i2 fun x23 =>
  g_bd ((((x20 + x21) - x22) - x23) - x19) fun x24 =>
  j202_3 x19 x24) fun j120_17 =>
  if x15 ≤ x16 then
  (g_rd high 24 i2 fun x25 =>
  j120_17 x25)
  else
  (g_rd wide 24 i2 fun x26 =>
  j120_17 x26)) fun j88_13 =>
  if x11 ≤ x12 then
  (g_rd high 24 i1 fun x27 =>
  j88_13 x27)
  else
  (g_rd wide 24 i1 fun x28 =>
  j88_13 x28))
  else
  (g_rd v 1748 (11 : Int32) fun x29 =>
  if x29 = (3 : Int32) then
  (g_rd high 24 i1 fun x30 =>
  g_rd high 24 i2 fun x31 =>
  g_bd (x30 - x31) fun x32 =>
  g_rd wide 24 i1 fun x33 =>
  g_rd wide 24 i2 fun x34 =>
  g_bd (x33 - x34) fun x35 =>
  j202_3 x32 x35)
  else
  (j202_3 (0 : Int32) (0 : Int32))))
def f_X11_packs_L61 (wide : (Nat → Int32)) (high : (Nat → Int32)) (f12 : Nat → Int32) (f23 : Nat → Int32) (k103_26 : Int32 → Option (Int32 × Int32 × Int32 × Int32 × Int32 × Int32 × Int32 × (Nat → Int32) × (Nat → Int32) × (Nat → Int32) × (Nat → Int32) × (Nat → Int32) × (Nat → Int32) × (Nat → Int32) × (Nat → Int32) × (Nat → Int32) × (Nat → Int32) × (Nat → Int32) × (Nat → Int32))) : Nat → Int32 → Int32 → Option (Int32 × Int32 × Int32 × Int32 × Int32 × Int32 × Int32 × (Nat → Int32) × (Nat → Int32) × (Nat → Int32) × (Nat → Int32) × (Nat → Int32) × (Nat → Int32) × (Nat → Int32) × (Nat → Int32) × (Nat → Int32) × (Nat → Int32) × (Nat → Int32) × (Nat → Int32))
  | 0, _, _ => none
  | n+1, x53, x54 =>
  if x54 < 0 then
  (k103_26 x53)
  else
  (g_rd f23 24 x54 fun x55 =>
  g_jn (fun (x56 : Int32) =>
  g_bd (x54 + (-1)) fun x58 =>
  f_X11_packs_L61 wide high f12 f23 k103_26 n x56 x58) fun j96_56 =>
  g_jn (j96_56 x53) fun j95_58 =>
  if x55 = 0 then
  (g_jn (j96_56 x54) fun j90_59 =>
  if x53 < 0 then
  (j90_59)
  else
  ((f_X11_isFirst f12 wide high x54 x53).bind fun r61 =>
  if r61 = 0 then
  (j95_58)
  else
  (j90_59)))
  else
  (j95_58))
def f_X11_packs_L45 (wide : (Nat → Int32)) (high : (Nat → Int32)) : Nat → Int32 → Int32 → Int32 → Int32 → Int32 → Int32 → Int32 → Int32 → (Nat → Int32) → (Nat → Int32) → (Nat → Int32) → (Nat → Int32) → (Nat → Int32) → (Nat → Int32) → (Nat → Int32) → (Nat → Int32) → (Nat → Int32) → (Nat → Int32) → (Nat → Int32) → (Nat → Int32) → Option (Int32 × Int32 × Int32 × Int32 × Int32 × Int32 × Int32 × (Nat → Int32) × (Nat → Int32) × (Nat → Int32) × (Nat → Int32) × (Nat → Int32) × (Nat → Int32) × (Nat → Int32) × (Nat → Int32) × (Nat → Int32) × (Nat → Int32) × (Nat → Int32) × (Nat → Int32))
  | 0, _, _, _, _, _, _, _, _, _, _, _, _, _, _, _, _, _, _, _, _ => none
  | n+1, x4, x5, x6, x7, x8, x9, x10, x11, f12, f13, f14, f15, f16, f17, f18, f19, f20, f21, f22, f23 =>
  if x5 = 0 then
  (some (x4, x6, x7, x8, x9, x10, x11, f12, f13, f14, f15, f16, f17, f18, f19, f20, f21, f22, f23))
  else
  (g_rd f12 1748 (0 : Int32) fun x24 =>
  g_bd (x24 - (1 : Int32)) fun x25 =>
  g_jn (fun (x26 : Int32) =>
  g_bd (if x26 < 0 then (0 : Int32) else (1 : Int32)) fun x28 =>
  g_jn (fun (x29 : Int32) (x30 : Int32) (x31 : Int32) (x32 : Int32) (x33 : Int32) (x34 : Int32) (x35 : Int32) (f36 : Nat → Int32) (f37 : Nat → Int32) (f38 : Nat → Int32) (f39 : Nat → Int32) (f40 : Nat → Int32) (f41 : Nat → Int32) (f42 : Nat → Int32) (f43 : Nat → Int32) (f44 : Nat → Int32) (f45 : Nat → Int32) (f46 : Nat → Int32) (f47 : Nat → Int32) =>
  f_X11_packs_L45 wide high n x29 x28 x30 x31 x32 x33 x34 x35 f36 f37 f38 f39 f40 f41 f42 f43 f44 f45 f46 f47) fun j140_47 =>
  if x28 = 0 then
  (j140_47 x4 x6 x7 x8 x9 x10 x11 f12 f13 f14 f15 f16 f17 f18 f19 f20 f21 f22 f23)
  else
  (g_wrZ f23 24 x26 (1 : Int32) fun f49 =>
  (f_X11_places x6 x7 x8 x9 x10 x11 f12 wide high f13 f14 f15 f16 f17 f18 f19 f20 f21 f22 x26).bind fun r50 =>
  g_bd (if r50.1 = 0 then (1 : Int32) else (0 : Int32)) fun x51 =>
  g_bd (x4 + x51) fun x52 =>
  j140_47 x52 r50.2.1 r50.2.2.1 r50.2.2.2.1 r50.2.2.2.2.1 r50.2.2.2.2.2.1 r50.2.2.2.2.2.2.1 r50.2.2.2.2.2.2.2.1 r50.2.2.2.2.2.2.2.2.1 r50.2.2.2.2.2.2.2.2.2.1 r50.2.2.2.2.2.2.2.2.2.2.1 r50.2.2.2.2.2.2.2.2.2.2.2.1 r50.2.2.2.2.2.2.2.2.2.2.2.2.1 r50.2.2.2.2.2.2.2.2.2.2.2.2.2.1 r50.2.2.2.2.2.2.2.2.2.2.2.2.2.2.1 r50.2.2.2.2.2.2.2.2.2.2.2.2.2.2.2.1 r50.2.2.2.2.2.2.2.2.2.2.2.2.2.2.2.2.1 r50.2.2.2.2.2.2.2.2.2.2.2.2.2.2.2.2.2 f49)) fun k103_26 =>
  f_X11_packs_L61 wide high f12 f23 k103_26 g_fuel (-1 : Int32) x25)
def f_X11_packs_L8 (wide : (Nat → Int32)) (original : (Nat → Int32)) (r1 : (Nat → Int32)) (k43_2 : (Nat → Int32) → Option (Int32 × Int32 × Int32 × Int32 × Int32 × Int32 × Int32 × (Nat → Int32) × (Nat → Int32) × (Nat → Int32) × (Nat → Int32) × (Nat → Int32) × (Nat → Int32) × (Nat → Int32) × (Nat → Int32) × (Nat → Int32) × (Nat → Int32) × (Nat → Int32) × (Nat → Int32))) : Nat → Int32 → (Nat → Int32) → Option (Int32 × Int32 × Int32 × Int32 × Int32 × Int32 × Int32 × (Nat → Int32) × (Nat → Int32) × (Nat → Int32) × (Nat → Int32) × (Nat → Int32) × (Nat → Int32) × (Nat → Int32) × (Nat → Int32) × (Nat → Int32) × (Nat → Int32) × (Nat → Int32) × (Nat → Int32))
  | 0, _, _ => none
  | n+1, x62, f63 =>
  g_rd r1 1748 (0 : Int32) fun x64 =>
  if x64 ≤ x62 then
  (k43_2 f63)
  else
  ((f_X11_isOriginal wide original x62).bind fun r65 =>
  g_bd (if r65 = 0 then (1 : Int32) else (0 : Int32)) fun x66 =>
  g_wrZ f63 24 x62 x66 fun f67 =>
  g_bd (x62 + 1) fun x68 =>
  f_X11_packs_L8 wide original r1 k43_2 n x68 f67)
def f_X11_packs (boxes : Int32) (frees : Int32) (bestFree : Int32) (bestTurned : Int32) (bestFirst : Int32) (bestSecond : Int32) (v : (Nat → Int32)) (wide : (Nat → Int32)) (high : (Nat → Int32)) (original : (Nat → Int32)) (boxX : (Nat → Int32)) (boxY : (Nat → Int32)) (boxW : (Nat → Int32)) (boxH : (Nat → Int32)) (freeAtX : (Nat → Int32)) (freeAtY : (Nat → Int32)) (freeW : (Nat → Int32)) (freeH : (Nat → Int32)) (begins : (Nat → Int32)) (ends : (Nat → Int32)) (tried : (Nat → Int32)) : Option (Int32 × Int32 × Int32 × Int32 × Int32 × Int32 × Int32 × (Nat → Int32) × (Nat → Int32) × (Nat → Int32) × (Nat → Int32) × (Nat → Int32) × (Nat → Int32) × (Nat → Int32) × (Nat → Int32) × (Nat → Int32) × (Nat → Int32) × (Nat → Int32) × (Nat → Int32)) :=
  (f_X11_empties v).bind fun r1 =>
  g_jn (fun (f2 : Nat → Int32) =>
  f_X11_packs_L45 wide high g_fuel (0 : Int32) (1 : Int32) boxes frees bestFree bestTurned bestFirst bestSecond r1 boxX boxY boxW boxH freeAtX freeAtY freeW freeH begins ends f2) fun k43_2 =>
  f_X11_packs_L8 wide original r1 k43_2 g_fuel (0 : Int32) tried
def f_X11_pack (pasts : Int32) (backX : Int32) (backY : Int32) (boxes : Int32) (frees : Int32) (bestFree : Int32) (bestTurned : Int32) (bestFirst : Int32) (bestSecond : Int32) (v : (Nat → Int32)) (past : (Nat → Int32)) (left : (Nat → Int32)) (top : (Nat → Int32)) (wide : (Nat → Int32)) (high : (Nat → Int32)) (original : (Nat → Int32)) (turn : (Nat → Int32)) (boxX : (Nat → Int32)) (boxY : (Nat → Int32)) (boxW : (Nat → Int32)) (boxH : (Nat → Int32)) (freeAtX : (Nat → Int32)) (freeAtY : (Nat → Int32)) (freeW : (Nat → Int32)) (freeH : (Nat → Int32)) (begins : (Nat → Int32)) (ends : (Nat → Int32)) (tried : (Nat → Int32)) : Option (Int32 × Int32 × Int32 × Int32 × Int32 × Int32 × Int32 × Int32 × Int32 × Int32 × (Nat → Int32) × (Nat → Int32) × (Nat → Int32) × (Nat → Int32) × (Nat → Int32) × (Nat → Int32) × (Nat → Int32) × (Nat → Int32) × (Nat → Int32) × (Nat → Int32) × (Nat → Int32) × (Nat → Int32) × (Nat → Int32) × (Nat → Int32) × (Nat → Int32) × (Nat → Int32) × (Nat → Int32) × (Nat → Int32) × (Nat → Int32)) :=
  (f_X11_knows backX backY v left top wide high original turn).bind fun r1 =>
  (f_X11_notes pasts v past).bind fun r2 =>
  (f_X11_packs boxes frees bestFree bestTurned bestFirst bestSecond v r1.2.2.2.2.1 r1.2.2.2.2.2.1 r1.2.2.2.2.2.2.1 boxX boxY boxW boxH freeAtX freeAtY freeW freeH begins ends tried).bind fun r3 =>
  some (r3.1, r2.1, r1.1, r1.2.1, r3.2.1, r3.2.2.1, r3.2.2.2.1, r3.2.2.2.2.1, r3.2.2.2.2.2.1, r3.2.2.2.2.2.2.1, r3.2.2.2.2.2.2.2.1, r2.2, r1.2.2.1, r1.2.2.2.1, r1.2.2.2.2.1, r1.2.2.2.2.2.1, r1.2.2.2.2.2.2.1, r1.2.2.2.2.2.2.2, r3.2.2.2.2.2.2.2.2.1, r3.2.2.2.2.2.2.2.2.2.1, r3.2.2.2.2.2.2.2.2.2.2.1, r3.2.2.2.2.2.2.2.2.2.2.2.1, r3.2.2.2.2.2.2.2.2.2.2.2.2.1, r3.2.2.2.2.2.2.2.2.2.2.2.2.2.1, r3.2.2.2.2.2.2.2.2.2.2.2.2.2.2.1, r3.2.2.2.2.2.2.2.2.2.2.2.2.2.2.2.1, r3.2.2.2.2.2.2.2.2.2.2.2.2.2.2.2.2.1, r3.2.2.2.2.2.2.2.2.2.2.2.2.2.2.2.2.2.1, r3.2.2.2.2.2.2.2.2.2.2.2.2.2.2.2.2.2.2)
def f_X11_keeps_L2 (v : (Nat → Int32)) : Nat → Int32 → (Nat → Int32) → Option ((Nat → Int32))
  | 0, _, _ => none
  | n+1, x1, f2 =>
  if (1748 : Int32) ≤ x1 then
  (some f2)
  else
  (g_rd v 1748 x1 fun x3 =>
  g_wr f2 1748 x1 x3 fun f4 =>
  g_bd (x1 + 1) fun x5 =>
  f_X11_keeps_L2 v n x5 f4)
def f_X11_keeps (v : (Nat → Int32)) (spare : (Nat → Int32)) : Option ((Nat → Int32)) :=
  f_X11_keeps_L2 v g_fuel (0 : Int32) spare
def f_X11_copies_L2 (i1 : Int32) (i2 : Int32) : Nat → Int32 → (Nat → Int32) → (Nat → Int32) → Option ((Nat → Int32) × (Nat → Int32))
  | 0, _, _, _ => none
  | n+1, x1, f2, f3 =>
  if (4 : Int32) ≤ x1 then
  (some (f2, f3))
  else
  (g_jn (fun (f4 : Nat → Int32) (f5 : Nat → Int32) =>
  g_bd (x1 + 1) fun x7 =>
  f_X11_copies_L2 i1 i2 n x7 f4 f5) fun j50_5 =>
  if i2 = 0 then
  (g_rd f3 4 x1 fun x8 =>
  g_wr f2 1748 (f_X11_at i1 ((3 : Int32) + x1)) x8 fun f9 =>
  j50_5 f9 f3)
  else
  (g_rd f2 1748 (f_X11_at i1 ((3 : Int32) + x1)) fun x10 =>
  g_wr f3 4 x1 x10 fun f11 =>
  j50_5 f2 f11))
def f_X11_copies (v : (Nat → Int32)) (aside : (Nat → Int32)) (i1 : Int32) (i2 : Int32) : Option ((Nat → Int32) × (Nat → Int32)) :=
  f_X11_copies_L2 i1 i2 g_fuel (0 : Int32) v aside
def f_X11_brings_L2 (spare : (Nat → Int32)) : Nat → Int32 → (Nat → Int32) → Option ((Nat → Int32))
  | 0, _, _ => none
  | n+1, x1, f2 =>
  if (1748 : Int32) ≤ x1 then
  (some f2)
  else
  (g_rd spare 1748 x1 fun x3 =>
  g_wr f2 1748 x1 x3 fun f4 =>
  g_bd (x1 + 1) fun x5 =>
  f_X11_brings_L2 spare n x5 f4)
def f_X11_brings (v : (Nat → Int32)) (spare : (Nat → Int32)) : Option ((Nat → Int32)) :=
  f_X11_brings_L2 spare g_fuel (0 : Int32) v
def f_X11_insert (pasts : Int32) (backX : Int32) (backY : Int32) (boxes : Int32) (frees : Int32) (bestFree : Int32) (bestTurned : Int32) (bestFirst : Int32) (bestSecond : Int32) (v : (Nat → Int32)) (spare : (Nat → Int32)) (past : (Nat → Int32)) (left : (Nat → Int32)) (top : (Nat → Int32)) (wide : (Nat → Int32)) (high : (Nat → Int32)) (original : (Nat → Int32)) (turn : (Nat → Int32)) (boxX : (Nat → Int32)) (boxY : (Nat → Int32)) (boxW : (Nat → Int32)) (boxH : (Nat → Int32)) (freeAtX : (Nat → Int32)) (freeAtY : (Nat → Int32)) (freeW : (Nat → Int32)) (freeH : (Nat → Int32)) (begins : (Nat → Int32)) (ends : (Nat → Int32)) (aside : (Nat → Int32)) (i1 : Int32) : Option (Int32 × Int32 × Int32 × Int32 × Int32 × Int32 × Int32 × Int32 × Int32 × Int32 × (Nat → Int32) × (Nat → Int32) × (Nat → Int32) × (Nat → Int32) × (Nat → Int32) × (Nat → Int32) × (Nat → Int32) × (Nat → Int32) × (Nat → Int32) × (Nat → Int32) × (Nat → Int32) × (Nat → Int32) × (Nat → Int32) × (Nat → Int32) × (Nat → Int32) × (Nat → Int32) × (Nat → Int32) × (Nat → Int32) × (Nat → Int32) × (Nat → Int32)) :=
  (f_X11_isSprite v i1).bind fun r1 =>
  if r1 = 0 then
  (some ((-1 : Int32), pasts, backX, backY, boxes, frees, bestFree, bestTurned, bestFirst, bestSecond, v, spare, past, left, top, wide, high, original, turn, boxX, boxY, boxW, boxH, freeAtX, freeAtY, freeW, freeH, begins, ends, aside))
  else
  ((f_X11_knows backX backY v left top wide high original turn).bind fun r2 =>
  (f_X11_isOriginal r2.2.2.2.2.1 r2.2.2.2.2.2.2.1 i1).bind fun r3 =>
  if r3 = 0 then
  (some ((-3 : Int32), pasts, r2.1, r2.2.1, boxes, frees, bestFree, bestTurned, bestFirst, bestSecond, v, spare, past, r2.2.2.1, r2.2.2.2.1, r2.2.2.2.2.1, r2.2.2.2.2.2.1, r2.2.2.2.2.2.2.1, r2.2.2.2.2.2.2.2, boxX, boxY, boxW, boxH, freeAtX, freeAtY, freeW, freeH, begins, ends, aside))
  else
  (g_rd v 1748 (f_X11_at i1 (3 : Int32)) fun x4 =>
  if x4 < 0 then
  ((f_X11_keeps v spare).bind fun r5 =>
  (f_X11_places boxes frees bestFree bestTurned bestFirst bestSecond v r2.2.2.2.2.1 r2.2.2.2.2.2.1 boxX boxY boxW boxH freeAtX freeAtY freeW freeH begins ends i1).bind fun r6 =>
  if r6.1 = 0 then
  (some ((-2 : Int32), pasts, r2.1, r2.2.1, r6.2.1, r6.2.2.1, r6.2.2.2.1, r6.2.2.2.2.1, r6.2.2.2.2.2.1, r6.2.2.2.2.2.2.1, r6.2.2.2.2.2.2.2.1, r5, past, r2.2.2.1, r2.2.2.2.1, r2.2.2.2.2.1, r2.2.2.2.2.2.1, r2.2.2.2.2.2.2.1, r2.2.2.2.2.2.2.2, r6.2.2.2.2.2.2.2.2.1, r6.2.2.2.2.2.2.2.2.2.1, r6.2.2.2.2.2.2.2.2.2.2.1, r6.2.2.2.2.2.2.2.2.2.2.2.1, r6.2.2.2.2.2.2.2.2.2.2.2.2.1, r6.2.2.2.2.2.2.2.2.2.2.2.2.2.1, r6.2.2.2.2.2.2.2.2.2.2.2.2.2.2.1, r6.2.2.2.2.2.2.2.2.2.2.2.2.2.2.2.1, r6.2.2.2.2.2.2.2.2.2.2.2.2.2.2.2.2.1, r6.2.2.2.2.2.2.2.2.2.2.2.2.2.2.2.2.2, aside))
  else
  (g_rd r6.2.2.2.2.2.2.2.1 1748 (f_X11_at i1 (3 : Int32)) fun x7 =>
  g_rd r6.2.2.2.2.2.2.2.1 1748 (13 : Int32) fun x8 =>
  g_rd r6.2.2.2.2.2.2.2.1 1748 ((14 : Int32) + x7) fun x9 =>
  (f_X11_copies r6.2.2.2.2.2.2.2.1 aside i1 (1 : Int32)).bind fun r10 =>
  (f_X11_brings r10.1 r5).bind fun r11 =>
  (f_X11_notes pasts r11 past).bind fun r12 =>
  g_wr r11 1748 (13 : Int32) x8 fun f13 =>
  g_wr f13 1748 ((14 : Int32) + x7) x9 fun f14 =>
  (f_X11_copies f14 r10.2 i1 (0 : Int32)).bind fun r15 =>
  some (x7, r12.1, r2.1, r2.2.1, r6.2.1, r6.2.2.1, r6.2.2.2.1, r6.2.2.2.2.1, r6.2.2.2.2.2.1, r6.2.2.2.2.2.2.1, r15.1, r5, r12.2, r2.2.2.1, r2.2.2.2.1, r2.2.2.2.2.1, r2.2.2.2.2.2.1, r2.2.2.2.2.2.2.1, r2.2.2.2.2.2.2.2, r6.2.2.2.2.2.2.2.2.1, r6.2.2.2.2.2.2.2.2.2.1, r6.2.2.2.2.2.2.2.2.2.2.1, r6.2.2.2.2.2.2.2.2.2.2.2.1, r6.2.2.2.2.2.2.2.2.2.2.2.2.1, r6.2.2.2.2.2.2.2.2.2.2.2.2.2.1, r6.2.2.2.2.2.2.2.2.2.2.2.2.2.2.1, r6.2.2.2.2.2.2.2.2.2.2.2.2.2.2.2.1, r6.2.2.2.2.2.2.2.2.2.2.2.2.2.2.2.2.1, r6.2.2.2.2.2.2.2.2.2.2.2.2.2.2.2.2.2, r15.2)))
  else
  (some ((-3 : Int32), pasts, r2.1, r2.2.1, boxes, frees, bestFree, bestTurned, bestFirst, bestSecond, v, spare, past, r2.2.2.1, r2.2.2.2.1, r2.2.2.2.2.1, r2.2.2.2.2.2.1, r2.2.2.2.2.2.2.1, r2.2.2.2.2.2.2.2, boxX, boxY, boxW, boxH, freeAtX, freeAtY, freeW, freeH, begins, ends, aside))))
def f_X11_unplace (pasts : Int32) (backX : Int32) (backY : Int32) (v : (Nat → Int32)) (past : (Nat → Int32)) (left : (Nat → Int32)) (top : (Nat → Int32)) (wide : (Nat → Int32)) (high : (Nat → Int32)) (original : (Nat → Int32)) (turn : (Nat → Int32)) (i1 : Int32) : Option (Int32 × Int32 × Int32 × Int32 × (Nat → Int32) × (Nat → Int32) × (Nat → Int32) × (Nat → Int32) × (Nat → Int32) × (Nat → Int32) × (Nat → Int32) × (Nat → Int32)) :=
  (f_X11_isSprite v i1).bind fun r1 =>
  if r1 = 0 then
  (some ((-1 : Int32), pasts, backX, backY, v, past, left, top, wide, high, original, turn))
  else
  ((f_X11_knows backX backY v left top wide high original turn).bind fun r2 =>
  g_rd v 1748 (f_X11_at i1 (3 : Int32)) fun x3 =>
  (f_X11_isOriginal r2.2.2.2.2.1 r2.2.2.2.2.2.2.1 i1).bind fun r4 =>
  if r4 = 0 then
  (some ((-3 : Int32), pasts, r2.1, r2.2.1, v, past, r2.2.2.1, r2.2.2.2.1, r2.2.2.2.2.1, r2.2.2.2.2.2.1, r2.2.2.2.2.2.2.1, r2.2.2.2.2.2.2.2))
  else
  (if 0 ≤ x3 then
  ((f_X11_notes pasts v past).bind fun r5 =>
  g_wr v 1748 (f_X11_at i1 (3 : Int32)) (-1 : Int32) fun f6 =>
  some (x3, r5.1, r2.1, r2.2.1, f6, r5.2, r2.2.2.1, r2.2.2.2.1, r2.2.2.2.2.1, r2.2.2.2.2.2.1, r2.2.2.2.2.2.2.1, r2.2.2.2.2.2.2.2))
  else
  (some ((-3 : Int32), pasts, r2.1, r2.2.1, v, past, r2.2.2.1, r2.2.2.2.1, r2.2.2.2.2.1, r2.2.2.2.2.2.1, r2.2.2.2.2.2.2.1, r2.2.2.2.2.2.2.2))))
def f_X11_holder (backX : Int32) (backY : Int32) (v : (Nat → Int32)) (left : (Nat → Int32)) (top : (Nat → Int32)) (wide : (Nat → Int32)) (high : (Nat → Int32)) (original : (Nat → Int32)) (turn : (Nat → Int32)) (i1 : Int32) : Option (Int32 × Int32 × Int32 × (Nat → Int32) × (Nat → Int32) × (Nat → Int32) × (Nat → Int32) × (Nat → Int32) × (Nat → Int32)) :=
  (f_X11_knows backX backY v left top wide high original turn).bind fun r1 =>
  g_rd r1.2.2.2.2.2.2.1 24 i1 fun x2 =>
  g_jn (fun (x3 : Int32) =>
  g_rd r1.2.2.2.2.1 24 x3 fun x5 =>
  if x5 ≤ 0 then
  (some ((-1 : Int32), r1.1, r1.2.1, r1.2.2.1, r1.2.2.2.1, r1.2.2.2.2.1, r1.2.2.2.2.2.1, r1.2.2.2.2.2.2.1, r1.2.2.2.2.2.2.2))
  else
  (g_rd v 1748 (f_X11_at x3 (3 : Int32)) fun x6 =>
  if x6 < 0 then
  (some ((-1 : Int32), r1.1, r1.2.1, r1.2.2.1, r1.2.2.2.1, r1.2.2.2.2.1, r1.2.2.2.2.2.1, r1.2.2.2.2.2.2.1, r1.2.2.2.2.2.2.2))
  else
  (some (x3, r1.1, r1.2.1, r1.2.2.1, r1.2.2.2.1, r1.2.2.2.2.1, r1.2.2.2.2.2.1, r1.2.2.2.2.2.2.1, r1.2.2.2.2.2.2.2)))) fun j23_3 =>
  if 0 ≤ x2 then
  (g_rd r1.2.2.2.2.2.2.1 24 i1 fun x7 =>
  j23_3 x7)
  else
  (j23_3 i1)
def f_X11_pageOf (backX : Int32) (backY : Int32) (v : (Nat → Int32)) (left : (Nat → Int32)) (top : (Nat → Int32)) (wide : (Nat → Int32)) (high : (Nat → Int32)) (original : (Nat → Int32)) (turn : (Nat → Int32)) (i1 : Int32) : Option (Int32 × Int32 × Int32 × (Nat → Int32) × (Nat → Int32) × (Nat → Int32) × (Nat → Int32) × (Nat → Int32) × (Nat → Int32)) :=
  (f_X11_isSprite v i1).bind fun r1 =>
  g_jn (fun (x2 : Int32) (x3 : Int32) (x4 : Int32) (f5 : Nat → Int32) (f6 : Nat → Int32) (f7 : Nat → Int32) (f8 : Nat → Int32) (f9 : Nat → Int32) (f10 : Nat → Int32) =>
  if x2 = (-2 : Int32) then
  (some ((-1 : Int32), x3, x4, f5, f6, f7, f8, f9, f10))
  else
  (if 0 ≤ x2 then
  (g_rd v 1748 (f_X11_at x2 (3 : Int32)) fun x12 =>
  some (x12, x3, x4, f5, f6, f7, f8, f9, f10))
  else
  (some ((-4 : Int32), x3, x4, f5, f6, f7, f8, f9, f10)))) fun j18_10 =>
  if r1 = 0 then
  (j18_10 (-2 : Int32) backX backY left top wide high original turn)
  else
  ((f_X11_holder backX backY v left top wide high original turn i1).bind fun r13 =>
  j18_10 r13.1 r13.2.1 r13.2.2.1 r13.2.2.2.1 r13.2.2.2.2.1 r13.2.2.2.2.2.1 r13.2.2.2.2.2.2.1 r13.2.2.2.2.2.2.2.1 r13.2.2.2.2.2.2.2.2)
def f_X11_columnOf (v : (Nat → Int32)) (i1 : Int32) : Option (Int32) :=
  g_rd v 1748 (f_X11_at i1 (4 : Int32)) fun x1 =>
  g_rd v 1748 (5 : Int32) fun x2 =>
  g_rd v 1748 (6 : Int32) fun x3 =>
  some ((x1 + x2) + x3)
def f_X11_rowOf (v : (Nat → Int32)) (i1 : Int32) : Option (Int32) :=
  g_rd v 1748 (f_X11_at i1 (5 : Int32)) fun x1 =>
  g_rd v 1748 (5 : Int32) fun x2 =>
  g_rd v 1748 (6 : Int32) fun x3 =>
  some ((x1 + x2) + x3)
def f_X11_xOf (backX : Int32) (backY : Int32) (v : (Nat → Int32)) (left : (Nat → Int32)) (top : (Nat → Int32)) (wide : (Nat → Int32)) (high : (Nat → Int32)) (original : (Nat → Int32)) (turn : (Nat → Int32)) (i1 : Int32) : Option (Int32 × Int32 × Int32 × (Nat → Int32) × (Nat → Int32) × (Nat → Int32) × (Nat → Int32) × (Nat → Int32) × (Nat → Int32)) :=
  (f_X11_isSprite v i1).bind fun r1 =>
  g_jn (fun (x2 : Int32) (x3 : Int32) (x4 : Int32) (f5 : Nat → Int32) (f6 : Nat → Int32) (f7 : Nat → Int32) (f8 : Nat → Int32) (f9 : Nat → Int32) (f10 : Nat → Int32) =>
  if x2 = (-2 : Int32) then
  (some ((-1 : Int32), x3, x4, f5, f6, f7, f8, f9, f10))
  else
  (if 0 ≤ x2 then
  ((f_X11_columnOf v x2).bind fun r12 =>
  some (r12, x3, x4, f5, f6, f7, f8, f9, f10))
  else
  (some ((-4 : Int32), x3, x4, f5, f6, f7, f8, f9, f10)))) fun j18_10 =>
  if r1 = 0 then
  (j18_10 (-2 : Int32) backX backY left top wide high original turn)
  else
  ((f_X11_holder backX backY v left top wide high original turn i1).bind fun r13 =>
  j18_10 r13.1 r13.2.1 r13.2.2.1 r13.2.2.2.1 r13.2.2.2.2.1 r13.2.2.2.2.2.1 r13.2.2.2.2.2.2.1 r13.2.2.2.2.2.2.2.1 r13.2.2.2.2.2.2.2.2)
def f_X11_yOf (backX : Int32) (backY : Int32) (v : (Nat → Int32)) (left : (Nat → Int32)) (top : (Nat → Int32)) (wide : (Nat → Int32)) (high : (Nat → Int32)) (original : (Nat → Int32)) (turn : (Nat → Int32)) (i1 : Int32) : Option (Int32 × Int32 × Int32 × (Nat → Int32) × (Nat → Int32) × (Nat → Int32) × (Nat → Int32) × (Nat → Int32) × (Nat → Int32)) :=
  (f_X11_isSprite v i1).bind fun r1 =>
  g_jn (fun (x2 : Int32) (x3 : Int32) (x4 : Int32) (f5 : Nat → Int32) (f6 : Nat → Int32) (f7 : Nat → Int32) (f8 : Nat → Int32) (f9 : Nat → Int32) (f10 : Nat → Int32) =>
  if x2 = (-2 : Int32) then
  (some ((-1 : Int32), x3, x4, f5, f6, f7, f8, f9, f10))
  else
  (if 0 ≤ x2 then
  ((f_X11_rowOf v x2).bind fun r12 =>
  some (r12, x3, x4, f5, f6, f7, f8, f9, f10))
  else
  (some ((-4 : Int32), x3, x4, f5, f6, f7, f8, f9, f10)))) fun j18_10 =>
  if r1 = 0 then
  (j18_10 (-2 : Int32) backX backY left top wide high original turn)
  else
  ((f_X11_holder backX backY v left top wide high original turn i1).bind fun r13 =>
  j18_10 r13.1 r13.2.1 r13.2.2.1 r13.2.2.2.1 r13.2.2.2.2.1 r13.2.2.2.2.2.1 r13.2.2.2.2.2.2.1 r13.2.2.2.2.2.2.2.1 r13.2.2.2.2.2.2.2.2)
def f_X11_isTurned (backX : Int32) (backY : Int32) (v : (Nat → Int32)) (left : (Nat → Int32)) (top : (Nat → Int32)) (wide : (Nat → Int32)) (high : (Nat → Int32)) (original : (Nat → Int32)) (turn : (Nat → Int32)) (i1 : Int32) : Option (Int32 × Int32 × Int32 × (Nat → Int32) × (Nat → Int32) × (Nat → Int32) × (Nat → Int32) × (Nat → Int32) × (Nat → Int32)) :=
  (f_X11_isSprite v i1).bind fun r1 =>
  g_jn (fun (x2 : Int32) (x3 : Int32) (x4 : Int32) (f5 : Nat → Int32) (f6 : Nat → Int32) (f7 : Nat → Int32) (f8 : Nat → Int32) (f9 : Nat → Int32) (f10 : Nat → Int32) =>
  if x2 = (-2 : Int32) then
  (some ((-1 : Int32), x3, x4, f5, f6, f7, f8, f9, f10))
  else
  (if 0 ≤ x2 then
  (g_rd v 1748 (f_X11_at x2 (6 : Int32)) fun x12 =>
  some (x12, x3, x4, f5, f6, f7, f8, f9, f10))
  else
  (some ((-4 : Int32), x3, x4, f5, f6, f7, f8, f9, f10)))) fun j18_10 =>
  if r1 = 0 then
  (j18_10 (-2 : Int32) backX backY left top wide high original turn)
  else
  ((f_X11_holder backX backY v left top wide high original turn i1).bind fun r13 =>
  j18_10 r13.1 r13.2.1 r13.2.2.1 r13.2.2.2.1 r13.2.2.2.2.1 r13.2.2.2.2.2.1 r13.2.2.2.2.2.2.1 r13.2.2.2.2.2.2.2.1 r13.2.2.2.2.2.2.2.2)
def f_X11_record_L2 (v : (Nat → Int32)) (left : (Nat → Int32)) (top : (Nat → Int32)) (wide : (Nat → Int32)) (high : (Nat → Int32)) (i1 : Int32) (i2 : Int32) : Nat → Int32 → Int32 → Int32 → Option (Int32 × Int32 × Int32)
  | 0, _, _, _ => none
  | n+1, x1, x2, x3 =>
  if (7 : Int32) ≤ x1 then
  (some (x1, x2, x3))
  else
  (g_rd v 1748 (f_X11_at i2 (6 : Int32)) fun x4 =>
  (f_X11_isLike x2 x3 v left top wide high i1 i2 x4 x1).bind fun r5 =>
  if r5.1 = 0 then
  (g_bd (x1 + 1) fun x6 =>
  f_X11_record_L2 v left top wide high i1 i2 n x6 r5.2.1 r5.2.2)
  else
  (some (x1, r5.2.1, r5.2.2)))
def f_X11_record (backX : Int32) (backY : Int32) (v : (Nat → Int32)) (left : (Nat → Int32)) (top : (Nat → Int32)) (wide : (Nat → Int32)) (high : (Nat → Int32)) (i1 : Int32) (i2 : Int32) : Option (Int32 × Int32 × Int32) :=
  f_X11_record_L2 v left top wide high i1 i2 g_fuel (0 : Int32) backX backY
def f_X11_recordOf (backX : Int32) (backY : Int32) (v : (Nat → Int32)) (left : (Nat → Int32)) (top : (Nat → Int32)) (wide : (Nat → Int32)) (high : (Nat → Int32)) (original : (Nat → Int32)) (turn : (Nat → Int32)) (i1 : Int32) : Option (Int32 × Int32 × Int32 × (Nat → Int32) × (Nat → Int32) × (Nat → Int32) × (Nat → Int32) × (Nat → Int32) × (Nat → Int32)) :=
  (f_X11_isSprite v i1).bind fun r1 =>
  g_jn (fun (x2 : Int32) (x3 : Int32) (x4 : Int32) (f5 : Nat → Int32) (f6 : Nat → Int32) (f7 : Nat → Int32) (f8 : Nat → Int32) (f9 : Nat → Int32) (f10 : Nat → Int32) =>
  if x2 = (-2 : Int32) then
  (some ((-1 : Int32), x3, x4, f5, f6, f7, f8, f9, f10))
  else
  (if 0 ≤ x2 then
  ((f_X11_record x3 x4 v f5 f6 f7 f8 i1 x2).bind fun r12 =>
  some (r12.1, r12.2.1, r12.2.2, f5, f6, f7, f8, f9, f10))
  else
  (some ((-4 : Int32), x3, x4, f5, f6, f7, f8, f9, f10)))) fun j18_10 =>
  if r1 = 0 then
  (j18_10 (-2 : Int32) backX backY left top wide high original turn)
  else
  ((f_X11_holder backX backY v left top wide high original turn i1).bind fun r13 =>
  j18_10 r13.1 r13.2.1 r13.2.2.1 r13.2.2.2.1 r13.2.2.2.2.1 r13.2.2.2.2.2.1 r13.2.2.2.2.2.2.1 r13.2.2.2.2.2.2.2.1 r13.2.2.2.2.2.2.2.2)
def f_X11_pages (v : (Nat → Int32)) : Option (Int32) :=
  g_rd v 1748 (13 : Int32) fun x1 =>
  some x1
def f_X11_isPage (v : (Nat → Int32)) (i1 : Int32) : Option (Int32) :=
  g_rd v 1748 (13 : Int32) fun x1 =>
  g_bd (f_X11_in i1 (0 : Int32) (x1 - (1 : Int32))) fun x2 =>
  g_z x2 <|
  some x2
def f_X11_isOnPage (v : (Nat → Int32)) (i1 : Int32) (i2 : Int32) (i3 : Int32) : Option (Int32) :=
  (f_X11_isPage v i1).bind fun r1 =>
  if r1 = 0 then
  (some (0 : Int32))
  else
  (g_rd v 1748 (1 : Int32) fun x2 =>
  if (f_X11_in i2 (0 : Int32) (x2 - (1 : Int32))) = 0 then
  (some (0 : Int32))
  else
  (g_rd v 1748 (2 : Int32) fun x3 =>
  if (f_X11_in i3 (0 : Int32) (x3 - (1 : Int32))) = 0 then
  (some (0 : Int32))
  else
  (some (1 : Int32))))
def f_X11_ownerAt_L12 (v : (Nat → Int32)) (wide : (Nat → Int32)) (high : (Nat → Int32)) (i1 : Int32) (i2 : Int32) (i3 : Int32) (x1 : Int32) : Nat → Int32 → Option (Int32)
  | 0, _ => none
  | n+1, x2 =>
  g_rd v 1748 (0 : Int32) fun x3 =>
  if x3 ≤ x2 then
  (some (-1 : Int32))
  else
  (g_rd v 1748 (f_X11_at x2 (6 : Int32)) fun x4 =>
  g_rd v 1748 (f_X11_at x2 (3 : Int32)) fun x5 =>
  g_jn (fun (x6 : Int32) =>
  g_jn (g_bd (x2 + 1) fun x9 =>
  f_X11_ownerAt_L12 v wide high i1 i2 i3 x1 n x9) fun j139_7 =>
  if x6 = 0 then
  (j139_7)
  else
  ((f_X11_rowOf v x2).bind fun r10 =>
  (f_X11_rowOf v x2).bind fun r11 =>
  (f_X11_imageHeight wide high x2 x4).bind fun r12 =>
  if (f_X11_in i3 (r10 - x1) (((r11 + r12) + x1) - (1 : Int32))) = 0 then
  (j139_7)
  else
  (some x2))) fun j93_6 =>
  g_jn (j93_6 (0 : Int32)) fun j92_12 =>
  if x5 = i1 then
  ((f_X11_columnOf v x2).bind fun r14 =>
  (f_X11_columnOf v x2).bind fun r15 =>
  (f_X11_imageWidth wide high x2 x4).bind fun r16 =>
  if (f_X11_in i2 (r14 - x1) (((r15 + r16) + x1) - (1 : Int32))) = 0 then
  (j92_12)
  else
  (j93_6 (1 : Int32)))
  else
  (j92_12))
def f_X11_ownerAt (v : (Nat → Int32)) (wide : (Nat → Int32)) (high : (Nat → Int32)) (i1 : Int32) (i2 : Int32) (i3 : Int32) : Option (Int32) :=
  g_rd v 1748 (6 : Int32) fun x1 =>
  f_X11_ownerAt_L12 v wide high i1 i2 i3 x1 g_fuel (0 : Int32)
def f_X11_held (i1 : Int32) (i2 : Int32) : Int32 :=
  if 0 ≤ i1 then
  (if i1 ≤ i2 then
  (i1)
  else
  (i2))
  else
  ((0 : Int32))
def f_X11_colorAt (backX : Int32) (backY : Int32) (v : (Nat → Int32)) (left : (Nat → Int32)) (top : (Nat → Int32)) (wide : (Nat → Int32)) (high : (Nat → Int32)) (i1 : Int32) (i2 : Int32) (i3 : Int32) : Option (Int32 × Int32 × Int32) :=
  (f_X11_ownerAt v wide high i1 i2 i3).bind fun r1 =>
  if 0 ≤ r1 then
  (g_rd v 1748 (f_X11_at r1 (6 : Int32)) fun x2 =>
  (f_X11_columnOf v r1).bind fun r3 =>
  (f_X11_imageWidth wide high r1 x2).bind fun r4 =>
  g_bd (f_X11_held (i2 - r3) (r4 - (1 : Int32))) fun x5 =>
  (f_X11_rowOf v r1).bind fun r6 =>
  (f_X11_imageHeight wide high r1 x2).bind fun r7 =>
  g_bd (f_X11_held (i3 - r6) (r7 - (1 : Int32))) fun x8 =>
  (f_X11_colorBy v left top wide high r1 x2 (0 : Int32) x5 x8).bind fun r9 =>
  some (r9.1, r9.2.1, r9.2.2))
  else
  (some ((0 : Int32), backX, backY))
def f_X11_pixel (backX : Int32) (backY : Int32) (v : (Nat → Int32)) (left : (Nat → Int32)) (top : (Nat → Int32)) (wide : (Nat → Int32)) (high : (Nat → Int32)) (original : (Nat → Int32)) (turn : (Nat → Int32)) (i1 : Int32) (i2 : Int32) (i3 : Int32) : Option (Int32 × Int32 × Int32 × (Nat → Int32) × (Nat → Int32) × (Nat → Int32) × (Nat → Int32) × (Nat → Int32) × (Nat → Int32)) :=
  (f_X11_isOnPage v i1 i2 i3).bind fun r1 =>
  if r1 = 0 then
  (some ((-1 : Int32), backX, backY, left, top, wide, high, original, turn))
  else
  ((f_X11_knows backX backY v left top wide high original turn).bind fun r2 =>
  (f_X11_colorAt r2.1 r2.2.1 v r2.2.2.1 r2.2.2.2.1 r2.2.2.2.2.1 r2.2.2.2.2.2.1 i1 i2 i3).bind fun r3 =>
  some (r3.1, r3.2.1, r3.2.2, r2.2.2.1, r2.2.2.2.1, r2.2.2.2.2.1, r2.2.2.2.2.2.1, r2.2.2.2.2.2.2.1, r2.2.2.2.2.2.2.2))
def f_X11_spriteAt (backX : Int32) (backY : Int32) (v : (Nat → Int32)) (left : (Nat → Int32)) (top : (Nat → Int32)) (wide : (Nat → Int32)) (high : (Nat → Int32)) (original : (Nat → Int32)) (turn : (Nat → Int32)) (i1 : Int32) (i2 : Int32) (i3 : Int32) : Option (Int32 × Int32 × Int32 × (Nat → Int32) × (Nat → Int32) × (Nat → Int32) × (Nat → Int32) × (Nat → Int32) × (Nat → Int32)) :=
  (f_X11_isOnPage v i1 i2 i3).bind fun r1 =>
  if r1 = 0 then
  (some ((-1 : Int32), backX, backY, left, top, wide, high, original, turn))
  else
  ((f_X11_knows backX backY v left top wide high original turn).bind fun r2 =>
  (f_X11_ownerAt v r2.2.2.2.2.1 r2.2.2.2.2.2.1 i1 i2 i3).bind fun r3 =>
  if 0 ≤ r3 then
  (some (r3, r2.1, r2.2.1, r2.2.2.1, r2.2.2.2.1, r2.2.2.2.2.1, r2.2.2.2.2.2.1, r2.2.2.2.2.2.2.1, r2.2.2.2.2.2.2.2))
  else
  (some ((-4 : Int32), r2.1, r2.2.1, r2.2.2.1, r2.2.2.2.1, r2.2.2.2.2.1, r2.2.2.2.2.2.1, r2.2.2.2.2.2.2.1, r2.2.2.2.2.2.2.2)))
def f_X11_used_L10 (v : (Nat → Int32)) (wide : (Nat → Int32)) (high : (Nat → Int32)) (i1 : Int32) (i2 : Int32) (k124_2 : Int32 → Option (Int32)) : Nat → Int32 → Int32 → Option (Int32)
  | 0, _, _ => none
  | n+1, x5, x6 =>
  g_rd v 1748 (0 : Int32) fun x7 =>
  if x7 ≤ x6 then
  (k124_2 x5)
  else
  (g_rd v 1748 (f_X11_at x6 (3 : Int32)) fun x8 =>
  g_jn (fun (x9 : Int32) =>
  g_bd (x6 + 1) fun x11 =>
  f_X11_used_L10 v wide high i1 i2 k124_2 n x9 x11) fun j118_9 =>
  if x8 = i1 then
  (g_rd v 1748 (f_X11_at x6 (6 : Int32)) fun x12 =>
  g_jn (fun (x13 : Int32) =>
  g_rd v 1748 (6 : Int32) fun x15 =>
  g_jn (fun (x16 : Int32) =>
  j118_9 x16) fun j117_16 =>
  if (x13 + x15) ≤ x5 then
  (j117_16 x5)
  else
  (g_rd v 1748 (6 : Int32) fun x18 =>
  j117_16 (x13 + x18))) fun j87_13 =>
  if i2 = 0 then
  ((f_X11_rowOf v x6).bind fun r19 =>
  (f_X11_imageHeight wide high x6 x12).bind fun r20 =>
  j87_13 (r19 + r20))
  else
  ((f_X11_columnOf v x6).bind fun r21 =>
  (f_X11_imageWidth wide high x6 x12).bind fun r22 =>
  j87_13 (r21 + r22)))
  else
  (j118_9 x5))
def f_X11_used (v : (Nat → Int32)) (wide : (Nat → Int32)) (high : (Nat → Int32)) (i1 : Int32) (i2 : Int32) : Option (Int32) :=
  g_rd v 1748 (5 : Int32) fun x1 =>
  g_jn (fun (x2 : Int32) =>
  g_rd v 1748 (5 : Int32) fun x4 =>
  some (x2 + x4)) fun k124_2 =>
  f_X11_used_L10 v wide high i1 i2 k124_2 g_fuel x1 (0 : Int32)
def f_X11_usedWidth (backX : Int32) (backY : Int32) (v : (Nat → Int32)) (left : (Nat → Int32)) (top : (Nat → Int32)) (wide : (Nat → Int32)) (high : (Nat → Int32)) (original : (Nat → Int32)) (turn : (Nat → Int32)) (i1 : Int32) : Option (Int32 × Int32 × Int32 × (Nat → Int32) × (Nat → Int32) × (Nat → Int32) × (Nat → Int32) × (Nat → Int32) × (Nat → Int32)) :=
  (f_X11_isPage v i1).bind fun r1 =>
  if r1 = 0 then
  (some ((-1 : Int32), backX, backY, left, top, wide, high, original, turn))
  else
  ((f_X11_knows backX backY v left top wide high original turn).bind fun r2 =>
  (f_X11_used v r2.2.2.2.2.1 r2.2.2.2.2.2.1 i1 (1 : Int32)).bind fun r3 =>
  some (r3, r2.1, r2.2.1, r2.2.2.1, r2.2.2.2.1, r2.2.2.2.2.1, r2.2.2.2.2.2.1, r2.2.2.2.2.2.2.1, r2.2.2.2.2.2.2.2))
def f_X11_usedHeight (backX : Int32) (backY : Int32) (v : (Nat → Int32)) (left : (Nat → Int32)) (top : (Nat → Int32)) (wide : (Nat → Int32)) (high : (Nat → Int32)) (original : (Nat → Int32)) (turn : (Nat → Int32)) (i1 : Int32) : Option (Int32 × Int32 × Int32 × (Nat → Int32) × (Nat → Int32) × (Nat → Int32) × (Nat → Int32) × (Nat → Int32) × (Nat → Int32)) :=
  (f_X11_isPage v i1).bind fun r1 =>
  if r1 = 0 then
  (some ((-1 : Int32), backX, backY, left, top, wide, high, original, turn))
  else
  ((f_X11_knows backX backY v left top wide high original turn).bind fun r2 =>
  (f_X11_used v r2.2.2.2.2.1 r2.2.2.2.2.2.1 i1 (0 : Int32)).bind fun r3 =>
  some (r3, r2.1, r2.2.1, r2.2.2.1, r2.2.2.2.1, r2.2.2.2.2.1, r2.2.2.2.2.2.1, r2.2.2.2.2.2.2.1, r2.2.2.2.2.2.2.2))
def f_X11_looks (backX : Int32) (backY : Int32) (boxes : Int32) (frees : Int32) (v : (Nat → Int32)) (left : (Nat → Int32)) (top : (Nat → Int32)) (wide : (Nat → Int32)) (high : (Nat → Int32)) (original : (Nat → Int32)) (turn : (Nat → Int32)) (boxX : (Nat → Int32)) (boxY : (Nat → Int32)) (boxW : (Nat → Int32)) (boxH : (Nat → Int32)) (freeAtX : (Nat → Int32)) (freeAtY : (Nat → Int32)) (freeW : (Nat → Int32)) (freeH : (Nat → Int32)) (begins : (Nat → Int32)) (ends : (Nat → Int32)) (i1 : Int32) : Option (Int32 × Int32 × Int32 × Int32 × Int32 × (Nat → Int32) × (Nat → Int32) × (Nat → Int32) × (Nat → Int32) × (Nat → Int32) × (Nat → Int32) × (Nat → Int32) × (Nat → Int32) × (Nat → Int32) × (Nat → Int32) × (Nat → Int32) × (Nat → Int32) × (Nat → Int32) × (Nat → Int32) × (Nat → Int32) × (Nat → Int32)) :=
  (f_X11_isPage v i1).bind fun r1 =>
  if r1 = 0 then
  (some ((-1 : Int32), backX, backY, boxes, frees, left, top, wide, high, original, turn, boxX, boxY, boxW, boxH, freeAtX, freeAtY, freeW, freeH, begins, ends))
  else
  ((f_X11_knows backX backY v left top wide high original turn).bind fun r2 =>
  (f_X11_freesOf v r2.2.2.2.2.1 r2.2.2.2.2.2.1 boxX boxY boxW boxH freeAtX freeAtY freeW freeH begins ends i1).bind fun r3 =>
  some (r3.2.1, r2.1, r2.2.1, r3.1, r3.2.1, r2.2.2.1, r2.2.2.2.1, r2.2.2.2.2.1, r2.2.2.2.2.2.1, r2.2.2.2.2.2.2.1, r2.2.2.2.2.2.2.2, r3.2.2.1, r3.2.2.2.1, r3.2.2.2.2.1, r3.2.2.2.2.2.1, r3.2.2.2.2.2.2.1, r3.2.2.2.2.2.2.2.1, r3.2.2.2.2.2.2.2.2.1, r3.2.2.2.2.2.2.2.2.2.1, r3.2.2.2.2.2.2.2.2.2.2.1, r3.2.2.2.2.2.2.2.2.2.2.2))
def f_X11_freeRectangles (backX : Int32) (backY : Int32) (boxes : Int32) (frees : Int32) (v : (Nat → Int32)) (left : (Nat → Int32)) (top : (Nat → Int32)) (wide : (Nat → Int32)) (high : (Nat → Int32)) (original : (Nat → Int32)) (turn : (Nat → Int32)) (boxX : (Nat → Int32)) (boxY : (Nat → Int32)) (boxW : (Nat → Int32)) (boxH : (Nat → Int32)) (freeAtX : (Nat → Int32)) (freeAtY : (Nat → Int32)) (freeW : (Nat → Int32)) (freeH : (Nat → Int32)) (begins : (Nat → Int32)) (ends : (Nat → Int32)) (i1 : Int32) : Option (Int32 × Int32 × Int32 × Int32 × Int32 × (Nat → Int32) × (Nat → Int32) × (Nat → Int32) × (Nat → Int32) × (Nat → Int32) × (Nat → Int32) × (Nat → Int32) × (Nat → Int32) × (Nat → Int32) × (Nat → Int32) × (Nat → Int32) × (Nat → Int32) × (Nat → Int32) × (Nat → Int32) × (Nat → Int32) × (Nat → Int32)) :=
  (f_X11_looks backX backY boxes frees v left top wide high original turn boxX boxY boxW boxH freeAtX freeAtY freeW freeH begins ends i1).bind fun r1 =>
  some (r1.1, r1.2.1, r1.2.2.1, r1.2.2.2.1, r1.2.2.2.2.1, r1.2.2.2.2.2.1, r1.2.2.2.2.2.2.1, r1.2.2.2.2.2.2.2.1, r1.2.2.2.2.2.2.2.2.1, r1.2.2.2.2.2.2.2.2.2.1, r1.2.2.2.2.2.2.2.2.2.2.1, r1.2.2.2.2.2.2.2.2.2.2.2.1, r1.2.2.2.2.2.2.2.2.2.2.2.2.1, r1.2.2.2.2.2.2.2.2.2.2.2.2.2.1, r1.2.2.2.2.2.2.2.2.2.2.2.2.2.2.1, r1.2.2.2.2.2.2.2.2.2.2.2.2.2.2.2.1, r1.2.2.2.2.2.2.2.2.2.2.2.2.2.2.2.2.1, r1.2.2.2.2.2.2.2.2.2.2.2.2.2.2.2.2.2.1, r1.2.2.2.2.2.2.2.2.2.2.2.2.2.2.2.2.2.2.1, r1.2.2.2.2.2.2.2.2.2.2.2.2.2.2.2.2.2.2.2.1, r1.2.2.2.2.2.2.2.2.2.2.2.2.2.2.2.2.2.2.2.2)
def f_X11_freeX (backX : Int32) (backY : Int32) (boxes : Int32) (frees : Int32) (v : (Nat → Int32)) (left : (Nat → Int32)) (top : (Nat → Int32)) (wide : (Nat → Int32)) (high : (Nat → Int32)) (original : (Nat → Int32)) (turn : (Nat → Int32)) (boxX : (Nat → Int32)) (boxY : (Nat → Int32)) (boxW : (Nat → Int32)) (boxH : (Nat → Int32)) (freeAtX : (Nat → Int32)) (freeAtY : (Nat → Int32)) (freeW : (Nat → Int32)) (freeH : (Nat → Int32)) (begins : (Nat → Int32)) (ends : (Nat → Int32)) (i1 : Int32) (i2 : Int32) : Option (Int32 × Int32 × Int32 × Int32 × Int32 × (Nat → Int32) × (Nat → Int32) × (Nat → Int32) × (Nat → Int32) × (Nat → Int32) × (Nat → Int32) × (Nat → Int32) × (Nat → Int32) × (Nat → Int32) × (Nat → Int32) × (Nat → Int32) × (Nat → Int32) × (Nat → Int32) × (Nat → Int32) × (Nat → Int32) × (Nat → Int32)) :=
  (f_X11_looks backX backY boxes frees v left top wide high original turn boxX boxY boxW boxH freeAtX freeAtY freeW freeH begins ends i1).bind fun r1 =>
  if (f_X11_in i2 (0 : Int32) (r1.1 - (1 : Int32))) = 0 then
  (some ((-1 : Int32), r1.2.1, r1.2.2.1, r1.2.2.2.1, r1.2.2.2.2.1, r1.2.2.2.2.2.1, r1.2.2.2.2.2.2.1, r1.2.2.2.2.2.2.2.1, r1.2.2.2.2.2.2.2.2.1, r1.2.2.2.2.2.2.2.2.2.1, r1.2.2.2.2.2.2.2.2.2.2.1, r1.2.2.2.2.2.2.2.2.2.2.2.1, r1.2.2.2.2.2.2.2.2.2.2.2.2.1, r1.2.2.2.2.2.2.2.2.2.2.2.2.2.1, r1.2.2.2.2.2.2.2.2.2.2.2.2.2.2.1, r1.2.2.2.2.2.2.2.2.2.2.2.2.2.2.2.1, r1.2.2.2.2.2.2.2.2.2.2.2.2.2.2.2.2.1, r1.2.2.2.2.2.2.2.2.2.2.2.2.2.2.2.2.2.1, r1.2.2.2.2.2.2.2.2.2.2.2.2.2.2.2.2.2.2.1, r1.2.2.2.2.2.2.2.2.2.2.2.2.2.2.2.2.2.2.2.1, r1.2.2.2.2.2.2.2.2.2.2.2.2.2.2.2.2.2.2.2.2))
  else
  (g_rd r1.2.2.2.2.2.2.2.2.2.2.2.2.2.2.2.1 2000 i2 fun x2 =>
  some (x2, r1.2.1, r1.2.2.1, r1.2.2.2.1, r1.2.2.2.2.1, r1.2.2.2.2.2.1, r1.2.2.2.2.2.2.1, r1.2.2.2.2.2.2.2.1, r1.2.2.2.2.2.2.2.2.1, r1.2.2.2.2.2.2.2.2.2.1, r1.2.2.2.2.2.2.2.2.2.2.1, r1.2.2.2.2.2.2.2.2.2.2.2.1, r1.2.2.2.2.2.2.2.2.2.2.2.2.1, r1.2.2.2.2.2.2.2.2.2.2.2.2.2.1, r1.2.2.2.2.2.2.2.2.2.2.2.2.2.2.1, r1.2.2.2.2.2.2.2.2.2.2.2.2.2.2.2.1, r1.2.2.2.2.2.2.2.2.2.2.2.2.2.2.2.2.1, r1.2.2.2.2.2.2.2.2.2.2.2.2.2.2.2.2.2.1, r1.2.2.2.2.2.2.2.2.2.2.2.2.2.2.2.2.2.2.1, r1.2.2.2.2.2.2.2.2.2.2.2.2.2.2.2.2.2.2.2.1, r1.2.2.2.2.2.2.2.2.2.2.2.2.2.2.2.2.2.2.2.2))
def f_X11_freeY (backX : Int32) (backY : Int32) (boxes : Int32) (frees : Int32) (v : (Nat → Int32)) (left : (Nat → Int32)) (top : (Nat → Int32)) (wide : (Nat → Int32)) (high : (Nat → Int32)) (original : (Nat → Int32)) (turn : (Nat → Int32)) (boxX : (Nat → Int32)) (boxY : (Nat → Int32)) (boxW : (Nat → Int32)) (boxH : (Nat → Int32)) (freeAtX : (Nat → Int32)) (freeAtY : (Nat → Int32)) (freeW : (Nat → Int32)) (freeH : (Nat → Int32)) (begins : (Nat → Int32)) (ends : (Nat → Int32)) (i1 : Int32) (i2 : Int32) : Option (Int32 × Int32 × Int32 × Int32 × Int32 × (Nat → Int32) × (Nat → Int32) × (Nat → Int32) × (Nat → Int32) × (Nat → Int32) × (Nat → Int32) × (Nat → Int32) × (Nat → Int32) × (Nat → Int32) × (Nat → Int32) × (Nat → Int32) × (Nat → Int32) × (Nat → Int32) × (Nat → Int32) × (Nat → Int32) × (Nat → Int32)) :=
  (f_X11_looks backX backY boxes frees v left top wide high original turn boxX boxY boxW boxH freeAtX freeAtY freeW freeH begins ends i1).bind fun r1 =>
  if (f_X11_in i2 (0 : Int32) (r1.1 - (1 : Int32))) = 0 then
  (some ((-1 : Int32), r1.2.1, r1.2.2.1, r1.2.2.2.1, r1.2.2.2.2.1, r1.2.2.2.2.2.1, r1.2.2.2.2.2.2.1, r1.2.2.2.2.2.2.2.1, r1.2.2.2.2.2.2.2.2.1, r1.2.2.2.2.2.2.2.2.2.1, r1.2.2.2.2.2.2.2.2.2.2.1, r1.2.2.2.2.2.2.2.2.2.2.2.1, r1.2.2.2.2.2.2.2.2.2.2.2.2.1, r1.2.2.2.2.2.2.2.2.2.2.2.2.2.1, r1.2.2.2.2.2.2.2.2.2.2.2.2.2.2.1, r1.2.2.2.2.2.2.2.2.2.2.2.2.2.2.2.1, r1.2.2.2.2.2.2.2.2.2.2.2.2.2.2.2.2.1, r1.2.2.2.2.2.2.2.2.2.2.2.2.2.2.2.2.2.1, r1.2.2.2.2.2.2.2.2.2.2.2.2.2.2.2.2.2.2.1, r1.2.2.2.2.2.2.2.2.2.2.2.2.2.2.2.2.2.2.2.1, r1.2.2.2.2.2.2.2.2.2.2.2.2.2.2.2.2.2.2.2.2))
  else
  (g_rd r1.2.2.2.2.2.2.2.2.2.2.2.2.2.2.2.2.1 2000 i2 fun x2 =>
  some (x2, r1.2.1, r1.2.2.1, r1.2.2.2.1, r1.2.2.2.2.1, r1.2.2.2.2.2.1, r1.2.2.2.2.2.2.1, r1.2.2.2.2.2.2.2.1, r1.2.2.2.2.2.2.2.2.1, r1.2.2.2.2.2.2.2.2.2.1, r1.2.2.2.2.2.2.2.2.2.2.1, r1.2.2.2.2.2.2.2.2.2.2.2.1, r1.2.2.2.2.2.2.2.2.2.2.2.2.1, r1.2.2.2.2.2.2.2.2.2.2.2.2.2.1, r1.2.2.2.2.2.2.2.2.2.2.2.2.2.2.1, r1.2.2.2.2.2.2.2.2.2.2.2.2.2.2.2.1, r1.2.2.2.2.2.2.2.2.2.2.2.2.2.2.2.2.1, r1.2.2.2.2.2.2.2.2.2.2.2.2.2.2.2.2.2.1, r1.2.2.2.2.2.2.2.2.2.2.2.2.2.2.2.2.2.2.1, r1.2.2.2.2.2.2.2.2.2.2.2.2.2.2.2.2.2.2.2.1, r1.2.2.2.2.2.2.2.2.2.2.2.2.2.2.2.2.2.2.2.2))
def f_X11_freeWidth (backX : Int32) (backY : Int32) (boxes : Int32) (frees : Int32) (v : (Nat → Int32)) (left : (Nat → Int32)) (top : (Nat → Int32)) (wide : (Nat → Int32)) (high : (Nat → Int32)) (original : (Nat → Int32)) (turn : (Nat → Int32)) (boxX : (Nat → Int32)) (boxY : (Nat → Int32)) (boxW : (Nat → Int32)) (boxH : (Nat → Int32)) (freeAtX : (Nat → Int32)) (freeAtY : (Nat → Int32)) (freeW : (Nat → Int32)) (freeH : (Nat → Int32)) (begins : (Nat → Int32)) (ends : (Nat → Int32)) (i1 : Int32) (i2 : Int32) : Option (Int32 × Int32 × Int32 × Int32 × Int32 × (Nat → Int32) × (Nat → Int32) × (Nat → Int32) × (Nat → Int32) × (Nat → Int32) × (Nat → Int32) × (Nat → Int32) × (Nat → Int32) × (Nat → Int32) × (Nat → Int32) × (Nat → Int32) × (Nat → Int32) × (Nat → Int32) × (Nat → Int32) × (Nat → Int32) × (Nat → Int32)) :=
  (f_X11_looks backX backY boxes frees v left top wide high original turn boxX boxY boxW boxH freeAtX freeAtY freeW freeH begins ends i1).bind fun r1 =>
  if (f_X11_in i2 (0 : Int32) (r1.1 - (1 : Int32))) = 0 then
  (some ((-1 : Int32), r1.2.1, r1.2.2.1, r1.2.2.2.1, r1.2.2.2.2.1, r1.2.2.2.2.2.1, r1.2.2.2.2.2.2.1, r1.2.2.2.2.2.2.2.1, r1.2.2.2.2.2.2.2.2.1, r1.2.2.2.2.2.2.2.2.2.1, r1.2.2.2.2.2.2.2.2.2.2.1, r1.2.2.2.2.2.2.2.2.2.2.2.1, r1.2.2.2.2.2.2.2.2.2.2.2.2.1, r1.2.2.2.2.2.2.2.2.2.2.2.2.2.1, r1.2.2.2.2.2.2.2.2.2.2.2.2.2.2.1, r1.2.2.2.2.2.2.2.2.2.2.2.2.2.2.2.1, r1.2.2.2.2.2.2.2.2.2.2.2.2.2.2.2.2.1, r1.2.2.2.2.2.2.2.2.2.2.2.2.2.2.2.2.2.1, r1.2.2.2.2.2.2.2.2.2.2.2.2.2.2.2.2.2.2.1, r1.2.2.2.2.2.2.2.2.2.2.2.2.2.2.2.2.2.2.2.1, r1.2.2.2.2.2.2.2.2.2.2.2.2.2.2.2.2.2.2.2.2))
  else
  (g_rd r1.2.2.2.2.2.2.2.2.2.2.2.2.2.2.2.2.2.1 2000 i2 fun x2 =>
  some (x2, r1.2.1, r1.2.2.1, r1.2.2.2.1, r1.2.2.2.2.1, r1.2.2.2.2.2.1, r1.2.2.2.2.2.2.1, r1.2.2.2.2.2.2.2.1, r1.2.2.2.2.2.2.2.2.1, r1.2.2.2.2.2.2.2.2.2.1, r1.2.2.2.2.2.2.2.2.2.2.1, r1.2.2.2.2.2.2.2.2.2.2.2.1, r1.2.2.2.2.2.2.2.2.2.2.2.2.1, r1.2.2.2.2.2.2.2.2.2.2.2.2.2.1, r1.2.2.2.2.2.2.2.2.2.2.2.2.2.2.1, r1.2.2.2.2.2.2.2.2.2.2.2.2.2.2.2.1, r1.2.2.2.2.2.2.2.2.2.2.2.2.2.2.2.2.1, r1.2.2.2.2.2.2.2.2.2.2.2.2.2.2.2.2.2.1, r1.2.2.2.2.2.2.2.2.2.2.2.2.2.2.2.2.2.2.1, r1.2.2.2.2.2.2.2.2.2.2.2.2.2.2.2.2.2.2.2.1, r1.2.2.2.2.2.2.2.2.2.2.2.2.2.2.2.2.2.2.2.2))
def f_X11_freeHeight (backX : Int32) (backY : Int32) (boxes : Int32) (frees : Int32) (v : (Nat → Int32)) (left : (Nat → Int32)) (top : (Nat → Int32)) (wide : (Nat → Int32)) (high : (Nat → Int32)) (original : (Nat → Int32)) (turn : (Nat → Int32)) (boxX : (Nat → Int32)) (boxY : (Nat → Int32)) (boxW : (Nat → Int32)) (boxH : (Nat → Int32)) (freeAtX : (Nat → Int32)) (freeAtY : (Nat → Int32)) (freeW : (Nat → Int32)) (freeH : (Nat → Int32)) (begins : (Nat → Int32)) (ends : (Nat → Int32)) (i1 : Int32) (i2 : Int32) : Option (Int32 × Int32 × Int32 × Int32 × Int32 × (Nat → Int32) × (Nat → Int32) × (Nat → Int32) × (Nat → Int32) × (Nat → Int32) × (Nat → Int32) × (Nat → Int32) × (Nat → Int32) × (Nat → Int32) × (Nat → Int32) × (Nat → Int32) × (Nat → Int32) × (Nat → Int32) × (Nat → Int32) × (Nat → Int32) × (Nat → Int32)) :=
  (f_X11_looks backX backY boxes frees v left top wide high original turn boxX boxY boxW boxH freeAtX freeAtY freeW freeH begins ends i1).bind fun r1 =>
  if (f_X11_in i2 (0 : Int32) (r1.1 - (1 : Int32))) = 0 then
  (some ((-1 : Int32), r1.2.1, r1.2.2.1, r1.2.2.2.1, r1.2.2.2.2.1, r1.2.2.2.2.2.1, r1.2.2.2.2.2.2.1, r1.2.2.2.2.2.2.2.1, r1.2.2.2.2.2.2.2.2.1, r1.2.2.2.2.2.2.2.2.2.1, r1.2.2.2.2.2.2.2.2.2.2.1, r1.2.2.2.2.2.2.2.2.2.2.2.1, r1.2.2.2.2.2.2.2.2.2.2.2.2.1, r1.2.2.2.2.2.2.2.2.2.2.2.2.2.1, r1.2.2.2.2.2.2.2.2.2.2.2.2.2.2.1, r1.2.2.2.2.2.2.2.2.2.2.2.2.2.2.2.1, r1.2.2.2.2.2.2.2.2.2.2.2.2.2.2.2.2.1, r1.2.2.2.2.2.2.2.2.2.2.2.2.2.2.2.2.2.1, r1.2.2.2.2.2.2.2.2.2.2.2.2.2.2.2.2.2.2.1, r1.2.2.2.2.2.2.2.2.2.2.2.2.2.2.2.2.2.2.2.1, r1.2.2.2.2.2.2.2.2.2.2.2.2.2.2.2.2.2.2.2.2))
  else
  (g_rd r1.2.2.2.2.2.2.2.2.2.2.2.2.2.2.2.2.2.2.1 2000 i2 fun x2 =>
  some (x2, r1.2.1, r1.2.2.1, r1.2.2.2.1, r1.2.2.2.2.1, r1.2.2.2.2.2.1, r1.2.2.2.2.2.2.1, r1.2.2.2.2.2.2.2.1, r1.2.2.2.2.2.2.2.2.1, r1.2.2.2.2.2.2.2.2.2.1, r1.2.2.2.2.2.2.2.2.2.2.1, r1.2.2.2.2.2.2.2.2.2.2.2.1, r1.2.2.2.2.2.2.2.2.2.2.2.2.1, r1.2.2.2.2.2.2.2.2.2.2.2.2.2.1, r1.2.2.2.2.2.2.2.2.2.2.2.2.2.2.1, r1.2.2.2.2.2.2.2.2.2.2.2.2.2.2.2.1, r1.2.2.2.2.2.2.2.2.2.2.2.2.2.2.2.2.1, r1.2.2.2.2.2.2.2.2.2.2.2.2.2.2.2.2.2.1, r1.2.2.2.2.2.2.2.2.2.2.2.2.2.2.2.2.2.2.1, r1.2.2.2.2.2.2.2.2.2.2.2.2.2.2.2.2.2.2.2.1, r1.2.2.2.2.2.2.2.2.2.2.2.2.2.2.2.2.2.2.2.2))
def f_X11_fill_L95 (k118_8 : Int32 → Option (Int32 × Int32 × Int32 × (Nat → Int32) × (Nat → Int32) × (Nat → Int32) × (Nat → Int32) × (Nat → Int32) × (Nat → Int32))) : Nat → Int32 → Int32 → Option (Int32 × Int32 × Int32 × (Nat → Int32) × (Nat → Int32) × (Nat → Int32) × (Nat → Int32) × (Nat → Int32) × (Nat → Int32))
  | 0, _, _ => none
  | n+1, x12, x13 =>
  if x13 = 0 then
  (k118_8 x12)
  else
  (g_nz x13 <|
  g_bd (g_rem x12 x13) fun x15 =>
  f_X11_fill_L95 k118_8 n x13 x15)
def f_X11_fill_L19 (v : (Nat → Int32)) (i1 : Int32) (r2 : Int32 × Int32 × (Nat → Int32) × (Nat → Int32) × (Nat → Int32) × (Nat → Int32) × (Nat → Int32) × (Nat → Int32)) (k73_3 : Int32 → Option (Int32 × Int32 × Int32 × (Nat → Int32) × (Nat → Int32) × (Nat → Int32) × (Nat → Int32) × (Nat → Int32) × (Nat → Int32))) : Nat → Int32 → Int32 → Option (Int32 × Int32 × Int32 × (Nat → Int32) × (Nat → Int32) × (Nat → Int32) × (Nat → Int32) × (Nat → Int32) × (Nat → Int32))
  | 0, _, _ => none
  | n+1, x16, x17 =>
  g_rd v 1748 (0 : Int32) fun x18 =>
  if x18 ≤ x17 then
  (k73_3 x16)
  else
  (g_rd v 1748 (f_X11_at x17 (3 : Int32)) fun x19 =>
  g_jn (fun (x20 : Int32) =>
  g_bd (x16 + x20) fun x22 =>
  g_bd (x17 + 1) fun x23 =>
  f_X11_fill_L19 v i1 r2 k73_3 n x22 x23) fun j65_20 =>
  if x19 = i1 then
  (g_rd r2.2.2.2.2.1 24 x17 fun x24 =>
  g_rd r2.2.2.2.2.2.1 24 x17 fun x25 =>
  j65_20 (x24 * x25))
  else
  (j65_20 (0 : Int32)))
def f_X11_fill (backX : Int32) (backY : Int32) (v : (Nat → Int32)) (left : (Nat → Int32)) (top : (Nat → Int32)) (wide : (Nat → Int32)) (high : (Nat → Int32)) (original : (Nat → Int32)) (turn : (Nat → Int32)) (i1 : Int32) (i2 : Int32) : Option (Int32 × Int32 × Int32 × (Nat → Int32) × (Nat → Int32) × (Nat → Int32) × (Nat → Int32) × (Nat → Int32) × (Nat → Int32)) :=
  (f_X11_isPage v i1).bind fun r1 =>
  if r1 = 0 then
  (some ((-1 : Int32), backX, backY, left, top, wide, high, original, turn))
  else
  ((f_X11_knows backX backY v left top wide high original turn).bind fun r2 =>
  g_jn (fun (x3 : Int32) =>
  g_rd v 1748 (1 : Int32) fun x5 =>
  g_rd v 1748 (2 : Int32) fun x6 =>
  g_bd (x5 * x6) fun x7 =>
  g_jn (fun (x8 : Int32) =>
  if i2 = 0 then
  (g_nz x8 <|
  some ((x3 / x8), r2.1, r2.2.1, r2.2.2.1, r2.2.2.2.1, r2.2.2.2.2.1, r2.2.2.2.2.2.1, r2.2.2.2.2.2.2.1, r2.2.2.2.2.2.2.2))
  else
  (g_nz x8 <|
  some ((x7 / x8), r2.1, r2.2.1, r2.2.2.1, r2.2.2.2.1, r2.2.2.2.2.1, r2.2.2.2.2.2.1, r2.2.2.2.2.2.2.1, r2.2.2.2.2.2.2.2))) fun k118_8 =>
  f_X11_fill_L95 k118_8 g_fuel x3 x7) fun k73_3 =>
  f_X11_fill_L19 v i1 r2 k73_3 g_fuel (0 : Int32) (0 : Int32))
def f_X11_unplaced_L8 (v : (Nat → Int32)) (r1 : Int32 × Int32 × (Nat → Int32) × (Nat → Int32) × (Nat → Int32) × (Nat → Int32) × (Nat → Int32) × (Nat → Int32)) : Nat → Int32 → Int32 → Option (Int32 × Int32 × Int32 × (Nat → Int32) × (Nat → Int32) × (Nat → Int32) × (Nat → Int32) × (Nat → Int32) × (Nat → Int32))
  | 0, _, _ => none
  | n+1, x2, x3 =>
  g_rd v 1748 (0 : Int32) fun x4 =>
  if x4 ≤ x3 then
  (some (x2, r1.1, r1.2.1, r1.2.2.1, r1.2.2.2.1, r1.2.2.2.2.1, r1.2.2.2.2.2.1, r1.2.2.2.2.2.2.1, r1.2.2.2.2.2.2.2))
  else
  ((f_X11_isOriginal r1.2.2.2.2.1 r1.2.2.2.2.2.2.1 x3).bind fun r5 =>
  g_jn (fun (x6 : Int32) =>
  g_bd (x2 + x6) fun x8 =>
  g_bd (x3 + 1) fun x9 =>
  f_X11_unplaced_L8 v r1 n x8 x9) fun j45_6 =>
  g_jn (j45_6 (0 : Int32)) fun j44_9 =>
  if r5 = 0 then
  (j44_9)
  else
  (g_rd v 1748 (f_X11_at x3 (3 : Int32)) fun x11 =>
  if 0 ≤ x11 then
  (j44_9)
  else
  (j45_6 (1 : Int32))))
def f_X11_unplaced (backX : Int32) (backY : Int32) (v : (Nat → Int32)) (left : (Nat → Int32)) (top : (Nat → Int32)) (wide : (Nat → Int32)) (high : (Nat → Int32)) (original : (Nat → Int32)) (turn : (Nat → Int32)) : Option (Int32 × Int32 × Int32 × (Nat → Int32) × (Nat → Int32) × (Nat → Int32) × (Nat → Int32) × (Nat → Int32) × (Nat → Int32)) :=
  (f_X11_knows backX backY v left top wide high original turn).bind fun r1 =>
  f_X11_unplaced_L8 v r1 g_fuel (0 : Int32) (0 : Int32)
def f_X11_pageBound_L8 (v : (Nat → Int32)) (r1 : Int32 × Int32 × (Nat → Int32) × (Nat → Int32) × (Nat → Int32) × (Nat → Int32) × (Nat → Int32) × (Nat → Int32)) (k52_2 : Int32 → Option (Int32 × Int32 × Int32 × (Nat → Int32) × (Nat → Int32) × (Nat → Int32) × (Nat → Int32) × (Nat → Int32) × (Nat → Int32))) : Nat → Int32 → Int32 → Option (Int32 × Int32 × Int32 × (Nat → Int32) × (Nat → Int32) × (Nat → Int32) × (Nat → Int32) × (Nat → Int32) × (Nat → Int32))
  | 0, _, _ => none
  | n+1, x10, x11 =>
  g_rd v 1748 (0 : Int32) fun x12 =>
  if x12 ≤ x11 then
  (k52_2 x10)
  else
  ((f_X11_isOriginal r1.2.2.2.2.1 r1.2.2.2.2.2.2.1 x11).bind fun r13 =>
  g_jn (fun (x14 : Int32) =>
  g_bd (x10 + x14) fun x16 =>
  g_bd (x11 + 1) fun x17 =>
  f_X11_pageBound_L8 v r1 k52_2 n x16 x17) fun j44_14 =>
  if r13 = 0 then
  (j44_14 (0 : Int32))
  else
  ((f_X11_boxWidth v r1.2.2.2.2.1 r1.2.2.2.2.2.1 x11 (0 : Int32)).bind fun r18 =>
  (f_X11_boxHeight v r1.2.2.2.2.1 r1.2.2.2.2.2.1 x11 (0 : Int32)).bind fun r19 =>
  j44_14 (r18 * r19)))
def f_X11_pageBound (backX : Int32) (backY : Int32) (v : (Nat → Int32)) (left : (Nat → Int32)) (top : (Nat → Int32)) (wide : (Nat → Int32)) (high : (Nat → Int32)) (original : (Nat → Int32)) (turn : (Nat → Int32)) : Option (Int32 × Int32 × Int32 × (Nat → Int32) × (Nat → Int32) × (Nat → Int32) × (Nat → Int32) × (Nat → Int32) × (Nat → Int32)) :=
  (f_X11_knows backX backY v left top wide high original turn).bind fun r1 =>
  g_jn (fun (x2 : Int32) =>
  if x2 = 0 then
  (some ((0 : Int32), r1.1, r1.2.1, r1.2.2.1, r1.2.2.2.1, r1.2.2.2.2.1, r1.2.2.2.2.2.1, r1.2.2.2.2.2.2.1, r1.2.2.2.2.2.2.2))
  else
  ((f_X11_fieldWidth v).bind fun r4 =>
  if r4 ≤ 0 then
  (some ((-4 : Int32), r1.1, r1.2.1, r1.2.2.1, r1.2.2.2.1, r1.2.2.2.2.1, r1.2.2.2.2.2.1, r1.2.2.2.2.2.2.1, r1.2.2.2.2.2.2.2))
  else
  ((f_X11_fieldHeight v).bind fun r5 =>
  if 0 < r5 then
  ((f_X11_fieldWidth v).bind fun r6 =>
  (f_X11_fieldHeight v).bind fun r7 =>
  g_bd (r6 * r7) fun x8 =>
  g_nz x8 <|
  some ((((x2 + x8) - (1 : Int32)) / x8), r1.1, r1.2.1, r1.2.2.1, r1.2.2.2.1, r1.2.2.2.2.1, r1.2.2.2.2.2.1, r1.2.2.2.2.2.2.1, r1.2.2.2.2.2.2.2))
  else
  (some ((-4 : Int32), r1.1, r1.2.1, r1.2.2.1, r1.2.2.2.1, r1.2.2.2.2.1, r1.2.2.2.2.2.1, r1.2.2.2.2.2.2.1, r1.2.2.2.2.2.2.2))))) fun k52_2 =>
  f_X11_pageBound_L8 v r1 k52_2 g_fuel (0 : Int32) (0 : Int32)
def f_X11_usedByAll_L4 (v : (Nat → Int32)) (wide : (Nat → Int32)) (high : (Nat → Int32)) : Nat → Int32 → Int32 → Option (Int32)
  | 0, _, _ => none
  | n+1, x1, x2 =>
  g_rd v 1748 (13 : Int32) fun x3 =>
  if x3 ≤ x2 then
  (some x1)
  else
  ((f_X11_used v wide high x2 (1 : Int32)).bind fun r4 =>
  (f_X11_used v wide high x2 (0 : Int32)).bind fun r5 =>
  g_bd (x1 + (r4 * r5)) fun x6 =>
  g_bd (x2 + 1) fun x7 =>
  f_X11_usedByAll_L4 v wide high n x6 x7)
def f_X11_usedByAll (v : (Nat → Int32)) (wide : (Nat → Int32)) (high : (Nat → Int32)) : Option (Int32) :=
  f_X11_usedByAll_L4 v wide high g_fuel (0 : Int32) (0 : Int32)
def f_X11_bestMethod_L20 (r1 : Int32 × Int32 × (Nat → Int32) × (Nat → Int32) × (Nat → Int32) × (Nat → Int32) × (Nat → Int32) × (Nat → Int32)) (k158_21 : Int32 → Int32 → Int32 → Int32 → Int32 → Int32 → Int32 → (Nat → Int32) → (Nat → Int32) → (Nat → Int32) → (Nat → Int32) → (Nat → Int32) → (Nat → Int32) → (Nat → Int32) → (Nat → Int32) → (Nat → Int32) → (Nat → Int32) → (Nat → Int32) → (Nat → Int32) → Option (Int32 × Int32 × Int32 × Int32 × Int32 × Int32 × Int32 × Int32 × Int32 × (Nat → Int32) × (Nat → Int32) × (Nat → Int32) × (Nat → Int32) × (Nat → Int32) × (Nat → Int32) × (Nat → Int32) × (Nat → Int32) × (Nat → Int32) × (Nat → Int32) × (Nat → Int32) × (Nat → Int32) × (Nat → Int32) × (Nat → Int32) × (Nat → Int32) × (Nat → Int32) × (Nat → Int32) × (Nat → Int32) × (Nat → Int32))) : Nat → Int32 → Int32 → Int32 → Int32 → Int32 → Int32 → Int32 → Int32 → Int32 → Int32 → Int32 → (Nat → Int32) → (Nat → Int32) → (Nat → Int32) → (Nat → Int32) → (Nat → Int32) → (Nat → Int32) → (Nat → Int32) → (Nat → Int32) → (Nat → Int32) → (Nat → Int32) → (Nat → Int32) → (Nat → Int32) → Option (Int32 × Int32 × Int32 × Int32 × Int32 × Int32 × Int32 × Int32 × Int32 × (Nat → Int32) × (Nat → Int32) × (Nat → Int32) × (Nat → Int32) × (Nat → Int32) × (Nat → Int32) × (Nat → Int32) × (Nat → Int32) × (Nat → Int32) × (Nat → Int32) × (Nat → Int32) × (Nat → Int32) × (Nat → Int32) × (Nat → Int32) × (Nat → Int32) × (Nat → Int32) × (Nat → Int32) × (Nat → Int32) × (Nat → Int32))
  | 0, _, _, _, _, _, _, _, _, _, _, _, _, _, _, _, _, _, _, _, _, _, _, _ => none
  | n+1, x24, x25, x26, x27, x28, x29, x30, x31, x32, x33, x34, f35, f36, f37, f38, f39, f40, f41, f42, f43, f44, f45, f46 =>
  if (16 : Int32) ≤ x28 then
  (k158_21 x24 x29 x30 x31 x32 x33 x34 f35 f36 f37 f38 f39 f40 f41 f42 f43 f44 f45 f46)
  else
  (g_bd (x28 / (4 : Int32)) fun x47 =>
  g_wr f35 1748 (11 : Int32) x47 fun f48 =>
  g_bd (g_rem x28 (4 : Int32)) fun x49 =>
  g_wr f48 1748 (12 : Int32) x49 fun f50 =>
  (f_X11_packs x29 x30 x31 x32 x33 x34 f50 r1.2.2.2.2.1 r1.2.2.2.2.2.1 r1.2.2.2.2.2.2.1 f36 f37 f38 f39 f40 f41 f42 f43 f44 f45 f46).bind fun r51 =>
  (f_X11_usedByAll r51.2.2.2.2.2.2.2.1 r1.2.2.2.2.1 r1.2.2.2.2.2.1).bind fun r52 =>
  g_jn (fun (x53 : Int32) =>
  g_jn (fun (x55 : Int32) =>
  g_jn (fun (x57 : Int32) (x58 : Int32) (x59 : Int32) (x60 : Int32) =>
  g_bd (x28 + 1) fun x62 =>
  f_X11_bestMethod_L20 r1 k158_21 n x57 x58 x59 x60 x62 r51.2.1 r51.2.2.1 r51.2.2.2.1 r51.2.2.2.2.1 r51.2.2.2.2.2.1 r51.2.2.2.2.2.2.1 r51.2.2.2.2.2.2.2.1 r51.2.2.2.2.2.2.2.2.1 r51.2.2.2.2.2.2.2.2.2.1 r51.2.2.2.2.2.2.2.2.2.2.1 r51.2.2.2.2.2.2.2.2.2.2.2.1 r51.2.2.2.2.2.2.2.2.2.2.2.2.1 r51.2.2.2.2.2.2.2.2.2.2.2.2.2.1 r51.2.2.2.2.2.2.2.2.2.2.2.2.2.2.1 r51.2.2.2.2.2.2.2.2.2.2.2.2.2.2.2.1 r51.2.2.2.2.2.2.2.2.2.2.2.2.2.2.2.2.1 r51.2.2.2.2.2.2.2.2.2.2.2.2.2.2.2.2.2.1 r51.2.2.2.2.2.2.2.2.2.2.2.2.2.2.2.2.2.2) fun j152_60 =>
  if x55 = 0 then
  (j152_60 x24 x25 x26 x27)
  else
  (g_rd r51.2.2.2.2.2.2.2.1 1748 (13 : Int32) fun x63 =>
  j152_60 x28 r51.1 x63 r52)) fun j127_55 =>
  g_jn (j127_55 (1 : Int32)) fun j122_63 =>
  if x24 < 0 then
  (j122_63)
  else
  (if r51.1 < x25 then
  (j122_63)
  else
  (g_jn (j127_55 (0 : Int32)) fun j126_64 =>
  if x53 = 0 then
  (j126_64)
  else
  (g_rd r51.2.2.2.2.2.2.2.1 1748 (13 : Int32) fun x66 =>
  if x66 < x26 then
  (j122_63)
  else
  (g_rd r51.2.2.2.2.2.2.2.1 1748 (13 : Int32) fun x67 =>
  if x67 = x26 then
  (if x27 ≤ r52 then
  (j126_64)
  else
  (j122_63))
  else
  (j126_64)))))) fun j76_53 =>
  g_jn (j76_53 (0 : Int32)) fun j75_67 =>
  if x24 < 0 then
  (j75_67)
  else
  (if r51.1 = x25 then
  (j76_53 (1 : Int32))
  else
  (j75_67)))
def f_X11_bestMethod (backX : Int32) (backY : Int32) (boxes : Int32) (frees : Int32) (bestFree : Int32) (bestTurned : Int32) (bestFirst : Int32) (bestSecond : Int32) (v : (Nat → Int32)) (spare : (Nat → Int32)) (left : (Nat → Int32)) (top : (Nat → Int32)) (wide : (Nat → Int32)) (high : (Nat → Int32)) (original : (Nat → Int32)) (turn : (Nat → Int32)) (boxX : (Nat → Int32)) (boxY : (Nat → Int32)) (boxW : (Nat → Int32)) (boxH : (Nat → Int32)) (freeAtX : (Nat → Int32)) (freeAtY : (Nat → Int32)) (freeW : (Nat → Int32)) (freeH : (Nat → Int32)) (begins : (Nat → Int32)) (ends : (Nat → Int32)) (tried : (Nat → Int32)) : Option (Int32 × Int32 × Int32 × Int32 × Int32 × Int32 × Int32 × Int32 × Int32 × (Nat → Int32) × (Nat → Int32) × (Nat → Int32) × (Nat → Int32) × (Nat → Int32) × (Nat → Int32) × (Nat → Int32) × (Nat → Int32) × (Nat → Int32) × (Nat → Int32) × (Nat → Int32) × (Nat → Int32) × (Nat → Int32) × (Nat → Int32) × (Nat → Int32) × (Nat → Int32) × (Nat → Int32) × (Nat → Int32) × (Nat → Int32)) :=
  (f_X11_knows backX backY v left top wide high original turn).bind fun r1 =>
  (f_X11_keeps v spare).bind fun r2 =>
  g_jn (fun (x3 : Int32) (x4 : Int32) (x5 : Int32) (x6 : Int32) (x7 : Int32) (x8 : Int32) (x9 : Int32) (f10 : Nat → Int32) (f11 : Nat → Int32) (f12 : Nat → Int32) (f13 : Nat → Int32) (f14 : Nat → Int32) (f15 : Nat → Int32) (f16 : Nat → Int32) (f17 : Nat → Int32) (f18 : Nat → Int32) (f19 : Nat → Int32) (f20 : Nat → Int32) (f21 : Nat → Int32) =>
  (f_X11_brings f10 r2).bind fun r23 =>
  some ((((10 : Int32) * (x3 / (4 : Int32))) + (g_rem x3 (4 : Int32))), r1.1, r1.2.1, x4, x5, x6, x7, x8, x9, r23, r2, r1.2.2.1, r1.2.2.2.1, r1.2.2.2.2.1, r1.2.2.2.2.2.1, r1.2.2.2.2.2.2.1, r1.2.2.2.2.2.2.2, f11, f12, f13, f14, f15, f16, f17, f18, f19, f20, f21)) fun k158_21 =>
  f_X11_bestMethod_L20 r1 k158_21 g_fuel (-1 : Int32) (0 : Int32) (0 : Int32) (0 : Int32) (0 : Int32) boxes frees bestFree bestTurned bestFirst bestSecond v boxX boxY boxW boxH freeAtX freeAtY freeW freeH begins ends tried
def f_X11_smallestPage_L28 (r1 : Int32 × Int32 × (Nat → Int32) × (Nat → Int32) × (Nat → Int32) × (Nat → Int32) × (Nat → Int32) × (Nat → Int32)) (k71_23 : Int32 → Int32 → Int32 → Int32 → Int32 → Int32 → Int32 → (Nat → Int32) → (Nat → Int32) → (Nat → Int32) → (Nat → Int32) → (Nat → Int32) → (Nat → Int32) → (Nat → Int32) → (Nat → Int32) → (Nat → Int32) → (Nat → Int32) → (Nat → Int32) → (Nat → Int32) → Option (Int32 × Int32 × Int32 × Int32 × Int32 × Int32 × Int32 × Int32 × Int32 × (Nat → Int32) × (Nat → Int32) × (Nat → Int32) × (Nat → Int32) × (Nat → Int32) × (Nat → Int32) × (Nat → Int32) × (Nat → Int32) × (Nat → Int32) × (Nat → Int32) × (Nat → Int32) × (Nat → Int32) × (Nat → Int32) × (Nat → Int32) × (Nat → Int32) × (Nat → Int32) × (Nat → Int32) × (Nat → Int32) × (Nat → Int32))) : Nat → Int32 → Int32 → Int32 → Int32 → Int32 → Int32 → Int32 → Int32 → (Nat → Int32) → (Nat → Int32) → (Nat → Int32) → (Nat → Int32) → (Nat → Int32) → (Nat → Int32) → (Nat → Int32) → (Nat → Int32) → (Nat → Int32) → (Nat → Int32) → (Nat → Int32) → (Nat → Int32) → Option (Int32 × Int32 × Int32 × Int32 × Int32 × Int32 × Int32 × Int32 × Int32 × (Nat → Int32) × (Nat → Int32) × (Nat → Int32) × (Nat → Int32) × (Nat → Int32) × (Nat → Int32) × (Nat → Int32) × (Nat → Int32) × (Nat → Int32) × (Nat → Int32) × (Nat → Int32) × (Nat → Int32) × (Nat → Int32) × (Nat → Int32) × (Nat → Int32) × (Nat → Int32) × (Nat → Int32) × (Nat → Int32) × (Nat → Int32))
  | 0, _, _, _, _, _, _, _, _, _, _, _, _, _, _, _, _, _, _, _, _ => none
  | n+1, x26, x27, x28, x29, x30, x31, x32, x33, f34, f35, f36, f37, f38, f39, f40, f41, f42, f43, f44, f45 =>
  if (32 : Int32) < x27 then
  (k71_23 x26 x28 x29 x30 x31 x32 x33 f34 f35 f36 f37 f38 f39 f40 f41 f42 f43 f44 f45)
  else
  (if 0 ≤ x26 then
  (k71_23 x26 x28 x29 x30 x31 x32 x33 f34 f35 f36 f37 f38 f39 f40 f41 f42 f43 f44 f45)
  else
  (g_wr f34 1748 (1 : Int32) x27 fun f46 =>
  g_wr f46 1748 (2 : Int32) x27 fun f47 =>
  (f_X11_packs x28 x29 x30 x31 x32 x33 f47 r1.2.2.2.2.1 r1.2.2.2.2.2.1 r1.2.2.2.2.2.2.1 f35 f36 f37 f38 f39 f40 f41 f42 f43 f44 f45).bind fun r48 =>
  g_bd (if r48.1 = 0 then x27 else x26) fun x49 =>
  g_bd (x27 + 1) fun x50 =>
  f_X11_smallestPage_L28 r1 k71_23 n x49 x50 r48.2.1 r48.2.2.1 r48.2.2.2.1 r48.2.2.2.2.1 r48.2.2.2.2.2.1 r48.2.2.2.2.2.2.1 r48.2.2.2.2.2.2.2.1 r48.2.2.2.2.2.2.2.2.1 r48.2.2.2.2.2.2.2.2.2.1 r48.2.2.2.2.2.2.2.2.2.2.1 r48.2.2.2.2.2.2.2.2.2.2.2.1 r48.2.2.2.2.2.2.2.2.2.2.2.2.1 r48.2.2.2.2.2.2.2.2.2.2.2.2.2.1 r48.2.2.2.2.2.2.2.2.2.2.2.2.2.2.1 r48.2.2.2.2.2.2.2.2.2.2.2.2.2.2.2.1 r48.2.2.2.2.2.2.2.2.2.2.2.2.2.2.2.2.1 r48.2.2.2.2.2.2.2.2.2.2.2.2.2.2.2.2.2.1 r48.2.2.2.2.2.2.2.2.2.2.2.2.2.2.2.2.2.2))
def f_X11_smallestPage (backX : Int32) (backY : Int32) (boxes : Int32) (frees : Int32) (bestFree : Int32) (bestTurned : Int32) (bestFirst : Int32) (bestSecond : Int32) (v : (Nat → Int32)) (spare : (Nat → Int32)) (left : (Nat → Int32)) (top : (Nat → Int32)) (wide : (Nat → Int32)) (high : (Nat → Int32)) (original : (Nat → Int32)) (turn : (Nat → Int32)) (boxX : (Nat → Int32)) (boxY : (Nat → Int32)) (boxW : (Nat → Int32)) (boxH : (Nat → Int32)) (freeAtX : (Nat → Int32)) (freeAtY : (Nat → Int32)) (freeW : (Nat → Int32)) (freeH : (Nat → Int32)) (begins : (Nat → Int32)) (ends : (Nat → Int32)) (tried : (Nat → Int32)) : Option (Int32 × Int32 × Int32 × Int32 × Int32 × Int32 × Int32 × Int32 × Int32 × (Nat → Int32) × (Nat → Int32) × (Nat → Int32) × (Nat → Int32) × (Nat → Int32) × (Nat → Int32) × (Nat → Int32) × (Nat → Int32) × (Nat → Int32) × (Nat → Int32) × (Nat → Int32) × (Nat → Int32) × (Nat → Int32) × (Nat → Int32) × (Nat → Int32) × (Nat → Int32) × (Nat → Int32) × (Nat → Int32) × (Nat → Int32)) :=
  (f_X11_knows backX backY v left top wide high original turn).bind fun r1 =>
  (f_X11_keeps v spare).bind fun r2 =>
  g_wr v 1748 (3 : Int32) (1 : Int32) fun f3 =>
  g_wr f3 1748 (10 : Int32) (0 : Int32) fun f4 =>
  g_jn (fun (x5 : Int32) (x6 : Int32) (x7 : Int32) (x8 : Int32) (x9 : Int32) (x10 : Int32) (x11 : Int32) (f12 : Nat → Int32) (f13 : Nat → Int32) (f14 : Nat → Int32) (f15 : Nat → Int32) (f16 : Nat → Int32) (f17 : Nat → Int32) (f18 : Nat → Int32) (f19 : Nat → Int32) (f20 : Nat → Int32) (f21 : Nat → Int32) (f22 : Nat → Int32) (f23 : Nat → Int32) =>
  (f_X11_brings f12 r2).bind fun r25 =>
  some (x5, r1.1, r1.2.1, x6, x7, x8, x9, x10, x11, r25, r2, r1.2.2.1, r1.2.2.2.1, r1.2.2.2.2.1, r1.2.2.2.2.2.1, r1.2.2.2.2.2.2.1, r1.2.2.2.2.2.2.2, f13, f14, f15, f16, f17, f18, f19, f20, f21, f22, f23)) fun k71_23 =>
  f_X11_smallestPage_L28 r1 k71_23 g_fuel (-4 : Int32) (4 : Int32) boxes frees bestFree bestTurned bestFirst bestSecond f4 boxX boxY boxW boxH freeAtX freeAtY freeW freeH begins ends tried
def f_X11_sign (printed : Int32) (paper : (Nat → Int32)) (i1 : Int32) : Option (Int32 × (Nat → Int32)) :=
  g_wr paper 100 printed i1 fun f1 =>
  g_bd (printed + (1 : Int32)) fun x2 =>
  some (x2, f1)
def f_X11_number (printed : Int32) (paper : (Nat → Int32)) (i1 : Int32) : Option (Int32 × (Nat → Int32)) :=
  g_jn (fun (x1 : Int32) (f2 : Nat → Int32) =>
  (f_X11_sign x1 f2 ((48 : Int32) + (g_rem i1 (10 : Int32)))).bind fun r4 =>
  some (r4.1, r4.2)) fun j17_2 =>
  if i1 ≤ (9 : Int32) then
  (j17_2 printed paper)
  else
  ((f_X11_sign printed paper ((48 : Int32) + (i1 / (10 : Int32)))).bind fun r5 =>
  j17_2 r5.1 r5.2)
def f_X11_word_L9 (i1 : Int64) (i2 : Int64) : Nat → Int32 → Int32 → (Nat → Int32) → Option (Int32 × (Nat → Int32))
  | 0, _, _, _ => none
  | n+1, x2, x3, f4 =>
  if (16 : Int32) ≤ x2 then
  (some (x3, f4))
  else
  (g_bd (if (8 : Int32) ≤ x2 then i2 else i1) fun y5 =>
  g_bd ((g_lshr y5 ((56 : Int32) - ((8 : Int32) * (g_rem x2 (8 : Int32))))).toInt32 &&& (255 : Int32)) fun x6 =>
  g_jn (fun (x7 : Int32) (f8 : Nat → Int32) =>
  g_bd (x2 + 1) fun x10 =>
  f_X11_word_L9 i1 i2 n x10 x7 f8) fun j58_8 =>
  if x6 = 0 then
  (j58_8 x3 f4)
  else
  ((f_X11_sign x3 f4 x6).bind fun r11 =>
  j58_8 r11.1 r11.2))
def f_X11_word (printed : Int32) (paper : (Nat → Int32)) (i1 : Int64) (i2 : Int64) : Option (Int32 × (Nat → Int32)) :=
  (f_X11_sign printed paper (32 : Int32)).bind fun r1 =>
  f_X11_word_L9 i1 i2 g_fuel (0 : Int32) r1.1 r1.2
def f_X11_printsPlace (printed : Int32) (backX : Int32) (backY : Int32) (v : (Nat → Int32)) (paper : (Nat → Int32)) (left : (Nat → Int32)) (top : (Nat → Int32)) (wide : (Nat → Int32)) (high : (Nat → Int32)) (i1 : Int32) (i2 : Int32) : Option (Int32 × Int32 × Int32 × (Nat → Int32)) :=
  (f_X11_word printed paper (8097867289015091200 : Int64) (0 : Int64)).bind fun r1 =>
  g_rd v 1748 (f_X11_at i2 (3 : Int32)) fun x2 =>
  (f_X11_number r1.1 r1.2 x2).bind fun r3 =>
  (f_X11_word r3.1 r3.2 (7022272903349534720 : Int64) (0 : Int64)).bind fun r4 =>
  (f_X11_columnOf v i2).bind fun r5 =>
  (f_X11_number r4.1 r4.2 r5).bind fun r6 =>
  (f_X11_sign r6.1 r6.2 (44 : Int32)).bind fun r7 =>
  (f_X11_rowOf v i2).bind fun r8 =>
  (f_X11_number r7.1 r7.2 r8).bind fun r9 =>
  (f_X11_word r9.1 r9.2 (8316312761663488000 : Int64) (0 : Int64)).bind fun r10 =>
  g_rd wide 24 i1 fun x11 =>
  (f_X11_number r10.1 r10.2 x11).bind fun r12 =>
  (f_X11_sign r12.1 r12.2 (120 : Int32)).bind fun r13 =>
  g_rd high 24 i1 fun x14 =>
  (f_X11_number r13.1 r13.2 x14).bind fun r15 =>
  (f_X11_word r15.1 r15.2 (8243104023283245056 : Int64) (0 : Int64)).bind fun r16 =>
  (f_X11_record backX backY v left top wide high i1 i2).bind fun r17 =>
  (f_X11_number r16.1 r16.2 r17.1).bind fun r18 =>
  some (r18.1, r17.2.1, r17.2.2, r18.2)
def f_X11_print (printed : Int32) (backX : Int32) (backY : Int32) (v : (Nat → Int32)) (paper : (Nat → Int32)) (left : (Nat → Int32)) (top : (Nat → Int32)) (wide : (Nat → Int32)) (high : (Nat → Int32)) (original : (Nat → Int32)) (turn : (Nat → Int32)) (i1 : Int32) : Option (Int32 × Int32 × Int32 × Int32 × (Nat → Int32) × (Nat → Int32) × (Nat → Int32) × (Nat → Int32) × (Nat → Int32) × (Nat → Int32) × (Nat → Int32)) :=
  (f_X11_isSprite v i1).bind fun r1 =>
  if r1 = 0 then
  (some ((-1 : Int32), printed, backX, backY, paper, left, top, wide, high, original, turn))
  else
  ((f_X11_holder backX backY v left top wide high original turn i1).bind fun r2 =>
  (f_X11_number (0 : Int32) paper i1).bind fun r3 =>
  (f_X11_sign r3.1 r3.2 (58 : Int32)).bind fun r4 =>
  g_rd r2.2.2.2.2.2.1 24 i1 fun x5 =>
  g_jn (fun (x6 : Int32) (x7 : Int32) (x8 : Int32) (f9 : Nat → Int32) =>
  g_rd r2.2.2.2.2.2.2.2.1 24 i1 fun x11 =>
  g_jn (fun (x12 : Int32) (f13 : Nat → Int32) =>
  some (x12, x12, x7, x8, f13, r2.2.2.2.1, r2.2.2.2.2.1, r2.2.2.2.2.2.1, r2.2.2.2.2.2.2.1, r2.2.2.2.2.2.2.2.1, r2.2.2.2.2.2.2.2.2)) fun j100_13 =>
  if x11 < 0 then
  (j100_13 x6 f9)
  else
  ((f_X11_word x6 f9 (7165069197707273760 : Int64) (0 : Int64)).bind fun r15 =>
  g_rd r2.2.2.2.2.2.2.2.1 24 i1 fun x16 =>
  (f_X11_number r15.1 r15.2 x16).bind fun r17 =>
  j100_13 r17.1 r17.2)) fun j73_9 =>
  if x5 = 0 then
  ((f_X11_word r4.1 r4.2 (7092150640071147520 : Int64) (0 : Int64)).bind fun r18 =>
  j73_9 r18.1 r2.2.1 r2.2.2.1 r18.2)
  else
  (if 0 ≤ r2.1 then
  ((f_X11_printsPlace r4.1 r2.2.1 r2.2.2.1 v r4.2 r2.2.2.2.1 r2.2.2.2.2.1 r2.2.2.2.2.2.1 r2.2.2.2.2.2.2.1 i1 r2.1).bind fun r19 =>
  j73_9 r19.1 r19.2.1 r19.2.2.1 r19.2.2.2)
  else
  ((f_X11_word r4.1 r4.2 (8461824360668423524 : Int64) (0 : Int64)).bind fun r20 =>
  j73_9 r20.1 r2.2.1 r2.2.2.1 r20.2)))
def f_X11_printed (printed : Int32) (paper : (Nat → Int32)) (i1 : Int32) : Option (Int32) :=
  if 0 ≤ i1 then
  (if printed ≤ i1 then
  (some (-4 : Int32))
  else
  (g_rd paper 100 i1 fun x1 =>
  some x1))
  else
  (some (-1 : Int32))
def f_X11_keep_L13 (v : (Nat → Int32)) (i1 : Int32) (k44_1 : (Nat → Int32) → Option (Int32 × (Nat → Int32) × (Nat → Int32))) : Nat → Int32 → (Nat → Int32) → Option (Int32 × (Nat → Int32) × (Nat → Int32))
  | 0, _, _ => none
  | n+1, x5, f6 =>
  if (1748 : Int32) ≤ x5 then
  (k44_1 f6)
  else
  (g_rd v 1748 x5 fun x7 =>
  g_wr f6 3496 (((1748 : Int32) * i1) + x5) x7 fun f8 =>
  g_bd (x5 + 1) fun x9 =>
  f_X11_keep_L13 v i1 k44_1 n x9 f8)
def f_X11_keep (v : (Nat → Int32)) (kept : (Nat → Int32)) (isKept : (Nat → Int32)) (i1 : Int32) : Option (Int32 × (Nat → Int32) × (Nat → Int32)) :=
  if (f_X11_in i1 (0 : Int32) (1 : Int32)) = 0 then
  (some ((-1 : Int32), kept, isKept))
  else
  (g_jn (fun (f1 : Nat → Int32) =>
  g_wrZ isKept 2 i1 (1 : Int32) fun f3 =>
  g_rd v 1748 (0 : Int32) fun x4 =>
  some (x4, f1, f3)) fun k44_1 =>
  f_X11_keep_L13 v i1 k44_1 g_fuel (0 : Int32) kept)
def f_X11_restore_L25 (kept : (Nat → Int32)) (i1 : Int32) (k56_2 : (Nat → Int32) → Option (Int32 × Int32 × (Nat → Int32))) : Nat → Int32 → (Nat → Int32) → Option (Int32 × Int32 × (Nat → Int32))
  | 0, _, _ => none
  | n+1, x5, f6 =>
  if (1748 : Int32) ≤ x5 then
  (k56_2 f6)
  else
  (g_rd kept 3496 (((1748 : Int32) * i1) + x5) fun x7 =>
  g_wr f6 1748 x5 x7 fun f8 =>
  g_bd (x5 + 1) fun x9 =>
  f_X11_restore_L25 kept i1 k56_2 n x9 f8)
def f_X11_restore (pasts : Int32) (v : (Nat → Int32)) (kept : (Nat → Int32)) (isKept : (Nat → Int32)) (i1 : Int32) : Option (Int32 × Int32 × (Nat → Int32)) :=
  if (f_X11_in i1 (0 : Int32) (1 : Int32)) = 0 then
  (some ((-1 : Int32), pasts, v))
  else
  (g_rd isKept 2 i1 fun x1 =>
  if x1 = 0 then
  (some ((-3 : Int32), pasts, v))
  else
  (g_jn (fun (f2 : Nat → Int32) =>
  g_rd f2 1748 (0 : Int32) fun x4 =>
  some (x4, (0 : Int32), f2)) fun k56_2 =>
  f_X11_restore_L25 kept i1 k56_2 g_fuel (0 : Int32) v))
def f_X11_more (i1 : Int64) (i2 : Int32) : Int64 :=
  (((31 : Int64) * i1) + (i2).toInt64)
def f_X11_orNone (i1 : Int32) (i2 : Int32) : Int32 :=
  if i1 = 0 then
  ((-4 : Int32))
  else
  (i2)
def f_X11_moreOf_L40 (v : (Nat → Int32)) (i2 : Int32) (x1 : Int32) (x2 : Int32) (k82_4 : Int64 → Option (Int64 × Int32 × Int32)) : Nat → Int64 → Int32 → Option (Int64 × Int32 × Int32)
  | 0, _, _ => none
  | n+1, y39, x40 =>
  if (x1 * x2) ≤ x40 then
  (k82_4 y39)
  else
  (g_nz x1 <|
  g_nz x1 <|
  g_rd v 1748 (f_X11_pixelAt i2 (g_rem x40 x1) (x40 / x1)) fun x43 =>
  g_bd (f_X11_more y39 x43) fun y44 =>
  g_bd (x40 + 1) fun x45 =>
  f_X11_moreOf_L40 v i2 x1 x2 k82_4 n y44 x45)
def f_X11_moreOf (backX : Int32) (backY : Int32) (v : (Nat → Int32)) (left : (Nat → Int32)) (top : (Nat → Int32)) (wide : (Nat → Int32)) (high : (Nat → Int32)) (original : (Nat → Int32)) (turn : (Nat → Int32)) (i1 : Int64) (i2 : Int32) : Option (Int64 × Int32 × Int32) :=
  g_rd v 1748 (f_X11_at i2 (0 : Int32)) fun x1 =>
  g_rd v 1748 (f_X11_at i2 (1 : Int32)) fun x2 =>
  g_bd (f_X11_more (f_X11_more i1 x1) x2) fun y3 =>
  g_jn (fun (y4 : Int64) =>
  g_rd v 1748 (f_X11_at i2 (2 : Int32)) fun x6 =>
  g_bd (f_X11_more y4 x6) fun y7 =>
  g_rd wide 24 i2 fun x8 =>
  g_bd (if x8 ≤ 0 then (0 : Int32) else (1 : Int32)) fun x9 =>
  g_rd left 24 i2 fun x10 =>
  g_rd top 24 i2 fun x11 =>
  g_bd (f_X11_more (f_X11_more y7 (f_X11_orNone x9 x10)) (f_X11_orNone x9 x11)) fun y12 =>
  g_rd wide 24 i2 fun x13 =>
  g_rd high 24 i2 fun x14 =>
  g_bd (f_X11_more (f_X11_more y12 x13) x14) fun y15 =>
  g_rd original 24 i2 fun x16 =>
  g_bd (if x16 < 0 then (0 : Int32) else (1 : Int32)) fun x17 =>
  g_rd original 24 i2 fun x18 =>
  g_rd turn 24 i2 fun x19 =>
  g_bd (f_X11_more (f_X11_more y15 (f_X11_orNone x17 x18)) (f_X11_orNone x17 x19)) fun y20 =>
  g_jn (fun (x21 : Int32) =>
  g_jn (fun (x23 : Int32) =>
  g_rd v 1748 (f_X11_at x21 (3 : Int32)) fun x25 =>
  (f_X11_columnOf v x21).bind fun r26 =>
  g_bd (f_X11_more (f_X11_more y20 (f_X11_orNone x23 x25)) (f_X11_orNone x23 r26)) fun y27 =>
  (f_X11_rowOf v x21).bind fun r28 =>
  g_rd v 1748 (f_X11_at x21 (6 : Int32)) fun x29 =>
  g_bd (f_X11_more (f_X11_more y27 (f_X11_orNone x23 r28)) (f_X11_orNone x23 x29)) fun y30 =>
  g_jn (fun (x31 : Int32) (x32 : Int32) (x33 : Int32) =>
  some ((f_X11_more y30 x31), x32, x33)) fun j354_33 =>
  if x23 = 0 then
  (j354_33 (-4 : Int32) backX backY)
  else
  ((f_X11_record backX backY v left top wide high i2 x21).bind fun r35 =>
  j354_33 r35.1 r35.2.1 r35.2.2)) fun j258_23 =>
  g_jn (j258_23 (0 : Int32)) fun j257_35 =>
  if x9 = 0 then
  (j257_35)
  else
  (g_rd v 1748 (f_X11_at x21 (3 : Int32)) fun x37 =>
  if x37 < 0 then
  (j257_35)
  else
  (j258_23 (1 : Int32)))) fun j232_21 =>
  if x17 = 0 then
  (j232_21 i2)
  else
  (g_rd original 24 i2 fun x38 =>
  j232_21 x38)) fun k82_4 =>
  f_X11_moreOf_L40 v i2 x1 x2 k82_4 g_fuel y3 (0 : Int32)
def f_X11_moreOfPage_L54 (v : (Nat → Int32)) (left : (Nat → Int32)) (top : (Nat → Int32)) (wide : (Nat → Int32)) (high : (Nat → Int32)) (i2 : Int32) (x7 : Int32) (k87_13 : Int64 → Int32 → Int32 → Option (Int64 × Int32 × Int32 × Int32 × Int32 × (Nat → Int32) × (Nat → Int32) × (Nat → Int32) × (Nat → Int32) × (Nat → Int32) × (Nat → Int32) × (Nat → Int32) × (Nat → Int32) × (Nat → Int32) × (Nat → Int32))) : Nat → Int64 → Int32 → Int32 → Int32 → Option (Int64 × Int32 × Int32 × Int32 × Int32 × (Nat → Int32) × (Nat → Int32) × (Nat → Int32) × (Nat → Int32) × (Nat → Int32) × (Nat → Int32) × (Nat → Int32) × (Nat → Int32) × (Nat → Int32) × (Nat → Int32))
  | 0, _, _, _, _ => none
  | n+1, y16, x17, x18, x19 =>
  g_rd v 1748 (1 : Int32) fun x20 =>
  if x20 ≤ x17 then
  (k87_13 y16 x18 x19)
  else
  ((f_X11_colorAt x18 x19 v left top wide high i2 x17 x7).bind fun r21 =>
  g_bd (f_X11_more y16 r21.1) fun y22 =>
  g_bd (x17 + 1) fun x23 =>
  f_X11_moreOfPage_L54 v left top wide high i2 x7 k87_13 n y22 x23 r21.2.1 r21.2.2)
def f_X11_moreOfPage_L40 (v : (Nat → Int32)) (left : (Nat → Int32)) (top : (Nat → Int32)) (wide : (Nat → Int32)) (high : (Nat → Int32)) (i2 : Int32) (r1 : Int32 × Int32 × (Nat → Int32) × (Nat → Int32) × (Nat → Int32) × (Nat → Int32) × (Nat → Int32) × (Nat → Int32) × (Nat → Int32) × (Nat → Int32) × (Nat → Int32) × (Nat → Int32)) : Nat → Int64 → Int32 → Int32 → Int32 → Option (Int64 × Int32 × Int32 × Int32 × Int32 × (Nat → Int32) × (Nat → Int32) × (Nat → Int32) × (Nat → Int32) × (Nat → Int32) × (Nat → Int32) × (Nat → Int32) × (Nat → Int32) × (Nat → Int32) × (Nat → Int32))
  | 0, _, _, _, _ => none
  | n+1, y6, x7, x8, x9 =>
  g_rd v 1748 (2 : Int32) fun x10 =>
  if x10 ≤ x7 then
  (some (y6, x8, x9, r1.1, r1.2.1, r1.2.2.1, r1.2.2.2.1, r1.2.2.2.2.1, r1.2.2.2.2.2.1, r1.2.2.2.2.2.2.1, r1.2.2.2.2.2.2.2.1, r1.2.2.2.2.2.2.2.2.1, r1.2.2.2.2.2.2.2.2.2.1, r1.2.2.2.2.2.2.2.2.2.2.1, r1.2.2.2.2.2.2.2.2.2.2.2))
  else
  (g_jn (fun (y11 : Int64) (x12 : Int32) (x13 : Int32) =>
  g_bd (x7 + 1) fun x15 =>
  f_X11_moreOfPage_L40 v left top wide high i2 r1 n y11 x15 x12 x13) fun k87_13 =>
  f_X11_moreOfPage_L54 v left top wide high i2 x7 k87_13 g_fuel y6 (0 : Int32) x8 x9)
def f_X11_moreOfPage (backX : Int32) (backY : Int32) (v : (Nat → Int32)) (left : (Nat → Int32)) (top : (Nat → Int32)) (wide : (Nat → Int32)) (high : (Nat → Int32)) (boxX : (Nat → Int32)) (boxY : (Nat → Int32)) (boxW : (Nat → Int32)) (boxH : (Nat → Int32)) (freeAtX : (Nat → Int32)) (freeAtY : (Nat → Int32)) (freeW : (Nat → Int32)) (freeH : (Nat → Int32)) (begins : (Nat → Int32)) (ends : (Nat → Int32)) (i1 : Int64) (i2 : Int32) : Option (Int64 × Int32 × Int32 × Int32 × Int32 × (Nat → Int32) × (Nat → Int32) × (Nat → Int32) × (Nat → Int32) × (Nat → Int32) × (Nat → Int32) × (Nat → Int32) × (Nat → Int32) × (Nat → Int32) × (Nat → Int32)) :=
  (f_X11_freesOf v wide high boxX boxY boxW boxH freeAtX freeAtY freeW freeH begins ends i2).bind fun r1 =>
  (f_X11_used v wide high i2 (1 : Int32)).bind fun r2 =>
  (f_X11_used v wide high i2 (0 : Int32)).bind fun r3 =>
  g_bd (f_X11_more (f_X11_more i1 r2) r3) fun y4 =>
  g_bd (f_X11_more y4 r1.2.1) fun y5 =>
  f_X11_moreOfPage_L40 v left top wide high i2 r1 g_fuel y5 (0 : Int32) backX backY
def f_X11_checksum_L56 (v : (Nat → Int32)) (r1 : Int32 × Int32 × (Nat → Int32) × (Nat → Int32) × (Nat → Int32) × (Nat → Int32) × (Nat → Int32) × (Nat → Int32)) : Nat → Int64 → Int32 → Int32 → Int32 → Int32 → Int32 → (Nat → Int32) → (Nat → Int32) → (Nat → Int32) → (Nat → Int32) → (Nat → Int32) → (Nat → Int32) → (Nat → Int32) → (Nat → Int32) → (Nat → Int32) → (Nat → Int32) → Option (Int64 × Int32 × Int32 × Int32 × Int32 × (Nat → Int32) × (Nat → Int32) × (Nat → Int32) × (Nat → Int32) × (Nat → Int32) × (Nat → Int32) × (Nat → Int32) × (Nat → Int32) × (Nat → Int32) × (Nat → Int32) × (Nat → Int32) × (Nat → Int32) × (Nat → Int32) × (Nat → Int32) × (Nat → Int32) × (Nat → Int32))
  | 0, _, _, _, _, _, _, _, _, _, _, _, _, _, _, _, _ => none
  | n+1, y10, x11, x12, x13, x14, x15, f16, f17, f18, f19, f20, f21, f22, f23, f24, f25 =>
  g_rd v 1748 (13 : Int32) fun x26 =>
  if x26 ≤ x11 then
  (some (y10, x12, x13, x14, x15, r1.2.2.1, r1.2.2.2.1, r1.2.2.2.2.1, r1.2.2.2.2.2.1, r1.2.2.2.2.2.2.1, r1.2.2.2.2.2.2.2, f16, f17, f18, f19, f20, f21, f22, f23, f24, f25))
  else
  ((f_X11_moreOfPage x12 x13 v r1.2.2.1 r1.2.2.2.1 r1.2.2.2.2.1 r1.2.2.2.2.2.1 f16 f17 f18 f19 f20 f21 f22 f23 f24 f25 y10 x11).bind fun r27 =>
  g_bd (x11 + 1) fun x28 =>
  f_X11_checksum_L56 v r1 n r27.1 x28 r27.2.1 r27.2.2.1 r27.2.2.2.1 r27.2.2.2.2.1 r27.2.2.2.2.2.1 r27.2.2.2.2.2.2.1 r27.2.2.2.2.2.2.2.1 r27.2.2.2.2.2.2.2.2.1 r27.2.2.2.2.2.2.2.2.2.1 r27.2.2.2.2.2.2.2.2.2.2.1 r27.2.2.2.2.2.2.2.2.2.2.2.1 r27.2.2.2.2.2.2.2.2.2.2.2.2.1 r27.2.2.2.2.2.2.2.2.2.2.2.2.2.1 r27.2.2.2.2.2.2.2.2.2.2.2.2.2.2)
def f_X11_checksum_L19 (v : (Nat → Int32)) (r1 : Int32 × Int32 × (Nat → Int32) × (Nat → Int32) × (Nat → Int32) × (Nat → Int32) × (Nat → Int32) × (Nat → Int32)) (k42_6 : Int64 → Int32 → Int32 → Option (Int64 × Int32 × Int32 × Int32 × Int32 × (Nat → Int32) × (Nat → Int32) × (Nat → Int32) × (Nat → Int32) × (Nat → Int32) × (Nat → Int32) × (Nat → Int32) × (Nat → Int32) × (Nat → Int32) × (Nat → Int32) × (Nat → Int32) × (Nat → Int32) × (Nat → Int32) × (Nat → Int32) × (Nat → Int32) × (Nat → Int32))) : Nat → Int64 → Int32 → Int32 → Int32 → Option (Int64 × Int32 × Int32 × Int32 × Int32 × (Nat → Int32) × (Nat → Int32) × (Nat → Int32) × (Nat → Int32) × (Nat → Int32) × (Nat → Int32) × (Nat → Int32) × (Nat → Int32) × (Nat → Int32) × (Nat → Int32) × (Nat → Int32) × (Nat → Int32) × (Nat → Int32) × (Nat → Int32) × (Nat → Int32) × (Nat → Int32))
  | 0, _, _, _, _ => none
  | n+1, y29, x30, x31, x32 =>
  g_rd v 1748 (0 : Int32) fun x33 =>
  if x33 ≤ x30 then
  (k42_6 y29 x31 x32)
  else
  ((f_X11_moreOf x31 x32 v r1.2.2.1 r1.2.2.2.1 r1.2.2.2.2.1 r1.2.2.2.2.2.1 r1.2.2.2.2.2.2.1 r1.2.2.2.2.2.2.2 y29 x30).bind fun r34 =>
  g_bd (x30 + 1) fun x35 =>
  f_X11_checksum_L19 v r1 k42_6 n r34.1 x35 r34.2.1 r34.2.2)
def f_X11_checksum (backX : Int32) (backY : Int32) (boxes : Int32) (frees : Int32) (v : (Nat → Int32)) (left : (Nat → Int32)) (top : (Nat → Int32)) (wide : (Nat → Int32)) (high : (Nat → Int32)) (original : (Nat → Int32)) (turn : (Nat → Int32)) (boxX : (Nat → Int32)) (boxY : (Nat → Int32)) (boxW : (Nat → Int32)) (boxH : (Nat → Int32)) (freeAtX : (Nat → Int32)) (freeAtY : (Nat → Int32)) (freeW : (Nat → Int32)) (freeH : (Nat → Int32)) (begins : (Nat → Int32)) (ends : (Nat → Int32)) : Option (Int64 × Int32 × Int32 × Int32 × Int32 × (Nat → Int32) × (Nat → Int32) × (Nat → Int32) × (Nat → Int32) × (Nat → Int32) × (Nat → Int32) × (Nat → Int32) × (Nat → Int32) × (Nat → Int32) × (Nat → Int32) × (Nat → Int32) × (Nat → Int32) × (Nat → Int32) × (Nat → Int32) × (Nat → Int32) × (Nat → Int32)) :=
  (f_X11_knows backX backY v left top wide high original turn).bind fun r1 =>
  g_rd v 1748 (0 : Int32) fun x2 =>
  g_bd (f_X11_more (19 : Int64) x2) fun y3 =>
  g_jn (fun (y4 : Int64) (x5 : Int32) (x6 : Int32) =>
  g_rd v 1748 (13 : Int32) fun x8 =>
  g_bd (f_X11_more y4 x8) fun y9 =>
  f_X11_checksum_L56 v r1 g_fuel y9 (0 : Int32) x5 x6 boxes frees boxX boxY boxW boxH freeAtX freeAtY freeW freeH begins ends) fun k42_6 =>
  f_X11_checksum_L19 v r1 k42_6 g_fuel y3 (0 : Int32) r1.1 r1.2.1
