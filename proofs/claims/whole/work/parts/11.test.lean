def f_X6_has (count : Int32) (i1 : Int32) : Int32 :=
  if i1 < 0 then
  ((0 : Int32))
  else
  (if count ≤ i1 then
  ((0 : Int32))
  else
  ((1 : Int32)))
def f_X6_hasPixel (count : Int32) (widths : (Nat → Int32)) (heights : (Nat → Int32)) (i1 : Int32) (i2 : Int32) (i3 : Int32) : Option (Int32) :=
  if (f_X6_has count i1) = 0 then
  (some (0 : Int32))
  else
  (if i2 < 0 then
  (some (0 : Int32))
  else
  (g_rd widths 24 i1 fun x1 =>
  if x1 ≤ i2 then
  (some (0 : Int32))
  else
  (if i3 < 0 then
  (some (0 : Int32))
  else
  (g_rd heights 24 i1 fun x2 =>
  if x2 ≤ i3 then
  (some (0 : Int32))
  else
  (some (1 : Int32))))))
def f_X6_colorAt (rows : (Nat → Int32)) (i1 : Int32) (i2 : Int32) (i3 : Int32) : Option (Int32) :=
  g_bd ((i1 * (8 : Int32)) + i3) fun x1 =>
  if x1 < 0 then
  (some (0 : Int32))
  else
  (if (192 : Int32) ≤ x1 then
  (some (0 : Int32))
  else
  (g_rd rows 192 x1 fun x2 =>
  some ((g_ushr x2 ((4 : Int32) * i2)) &&& (15 : Int32))))
def f_X6_rowOf (rows : (Nat → Int32)) (i1 : Int32) (i2 : Int32) : Option (Int32) :=
  g_bd ((i1 * (8 : Int32)) + i2) fun x1 =>
  if x1 < 0 then
  (some (0 : Int32))
  else
  (if (192 : Int32) ≤ x1 then
  (some (0 : Int32))
  else
  (g_rd rows 192 x1 fun x2 =>
  some x2))
def f_X6_setColor (count : Int32) (widths : (Nat → Int32)) (heights : (Nat → Int32)) (rows : (Nat → Int32)) (i1 : Int32) (i2 : Int32) (i3 : Int32) (i4 : Int32) : Option ((Nat → Int32)) :=
  (f_X6_hasPixel count widths heights i1 i2 i3).bind fun r1 =>
  if r1 = 0 then
  (some rows)
  else
  (g_bd ((i1 * (8 : Int32)) + i3) fun x2 =>
  g_rd rows 192 x2 fun x3 =>
  g_bd ((x3 &&& ((g_shl (15 : Int32) ((4 : Int32) * i2)) ^^^ (-1 : Int32))) ||| (g_shl i4 ((4 : Int32) * i2))) fun x4 =>
  g_wr rows 192 x2 x4 fun f5 =>
  some f5)
def f_X6_remove (count : Int32) (widths : (Nat → Int32)) (heights : (Nat → Int32)) (groups : (Nat → Int32)) (rows : (Nat → Int32)) (i1 : Int32) : Option (Int32 × (Nat → Int32) × (Nat → Int32) × (Nat → Int32) × (Nat → Int32)) :=
  if (f_X6_has count i1) = 0 then
  (some (count, widths, heights, groups, rows))
  else
  (g_bd ((count - i1) - (1 : Int32)) fun x1 =>
  g_cpy widths 24 (i1 + (1 : Int32)) widths 24 i1 x1 fun f2 =>
  g_cpy heights 24 (i1 + (1 : Int32)) heights 24 i1 x1 fun f3 =>
  g_cpy groups 24 (i1 + (1 : Int32)) groups 24 i1 x1 fun f4 =>
  g_bd (i1 * (8 : Int32)) fun x5 =>
  g_cpy rows 192 (x5 + (8 : Int32)) rows 192 x5 (x1 * (8 : Int32)) fun f6 =>
  g_bd (count - (1 : Int32)) fun x7 =>
  some (x7, f2, f3, f4, f6))
def f_X6_copyFrom (widths : (Nat → Int32)) (heights : (Nat → Int32)) (groups : (Nat → Int32)) (rows : (Nat → Int32)) (count1 : Int32) (widths1 : (Nat → Int32)) (heights1 : (Nat → Int32)) (groups1 : (Nat → Int32)) (rows1 : (Nat → Int32)) : Option (Int32 × (Nat → Int32) × (Nat → Int32) × (Nat → Int32) × (Nat → Int32)) :=
  g_cpy widths1 24 (0 : Int32) widths 24 (0 : Int32) (24 : Int32) fun f1 =>
  g_cpy heights1 24 (0 : Int32) heights 24 (0 : Int32) (24 : Int32) fun f2 =>
  g_cpy groups1 24 (0 : Int32) groups 24 (0 : Int32) (24 : Int32) fun f3 =>
  g_cpy rows1 192 (0 : Int32) rows 192 (0 : Int32) (192 : Int32) fun f4 =>
  some (count1, f1, f2, f3, f4)
def f_X0_isBlank (cwidths : (Nat → Int32)) (i1 : Int32) : Option (Int32) :=
  g_rd cwidths 24 i1 fun x1 =>
  if x1 = 0 then
  (some (1 : Int32))
  else
  (some (0 : Int32))
def f_X0_colorIn (lefts : (Nat → Int32)) (tops : (Nat → Int32)) (cwidths : (Nat → Int32)) (cheights : (Nat → Int32)) (rows : (Nat → Int32)) (i1 : Int32) (i2 : Int32) (i3 : Int32) (i4 : Int32) : Option (Int32) :=
  g_rd cwidths 24 i1 fun x1 =>
  g_bd (x1 - (1 : Int32)) fun x2 =>
  g_rd cheights 24 i1 fun x3 =>
  g_bd (x3 - (1 : Int32)) fun x4 =>
  g_bd (g_rem i2 (4 : Int32)) fun x5 =>
  g_jn (fun (x6 : Int32) (x7 : Int32) (x8 : Int32) =>
  g_bd (if i2 < (4 : Int32) then x7 else (x6 - x7)) fun x10 =>
  g_rd lefts 24 i1 fun x11 =>
  g_rd tops 24 i1 fun x12 =>
  (f_X6_colorAt rows i1 (x11 + x10) (x12 + x8)).bind fun r13 =>
  some r13) fun j93_8 =>
  if x5 = (1 : Int32) then
  (g_bd (x4 - i3) fun x15 =>
  j93_8 x2 i4 x15)
  else
  (if x5 = (2 : Int32) then
  (g_bd (x2 - i3) fun x16 =>
  g_bd (x4 - i4) fun x17 =>
  j93_8 x2 x16 x17)
  else
  (if x5 = (3 : Int32) then
  (g_bd (x2 - i4) fun x18 =>
  j93_8 x2 x18 i3)
  else
  (j93_8 x2 i3 i4)))
def f_X0_matches_L96 (lefts : (Nat → Int32)) (tops : (Nat → Int32)) (cwidths : (Nat → Int32)) (cheights : (Nat → Int32)) (rows : (Nat → Int32)) (i1 : Int32) (i2 : Int32) (i3 : Int32) (k137_13 : Int32 → Int32 → Int32 → Option (Int32)) : Nat → Int32 → Int32 → Int32 → Int32 → Option (Int32)
  | 0, _, _, _, _ => none
  | n+1, x16, x17, x18, x19 =>
  if x16 ≤ x19 then
  (k137_13 x16 x17 x18)
  else
  ((f_X0_colorIn lefts tops cwidths cheights rows i1 (0 : Int32) x19 x18).bind fun r20 =>
  (f_X0_colorIn lefts tops cwidths cheights rows i2 i3 x19 x18).bind fun r21 =>
  if r20 = r21 then
  (g_bd (x19 + 1) fun x22 =>
  f_X0_matches_L96 lefts tops cwidths cheights rows i1 i2 i3 k137_13 n x16 x17 x18 x22)
  else
  (some (0 : Int32)))
def f_X0_matches_L86 (lefts : (Nat → Int32)) (tops : (Nat → Int32)) (cwidths : (Nat → Int32)) (cheights : (Nat → Int32)) (rows : (Nat → Int32)) (i1 : Int32) (i2 : Int32) (i3 : Int32) : Nat → Int32 → Int32 → Int32 → Option (Int32)
  | 0, _, _, _ => none
  | n+1, x8, x9, x10 =>
  if x9 ≤ x10 then
  (some (1 : Int32))
  else
  (g_jn (fun (x11 : Int32) (x12 : Int32) (x13 : Int32) =>
  g_bd (x13 + 1) fun x15 =>
  f_X0_matches_L86 lefts tops cwidths cheights rows i1 i2 i3 n x11 x12 x15) fun k137_13 =>
  f_X0_matches_L96 lefts tops cwidths cheights rows i1 i2 i3 k137_13 g_fuel x8 x9 x10 (0 : Int32))
def f_X0_matches (lefts : (Nat → Int32)) (tops : (Nat → Int32)) (cwidths : (Nat → Int32)) (cheights : (Nat → Int32)) (rows : (Nat → Int32)) (i1 : Int32) (i2 : Int32) (i3 : Int32) : Option (Int32) :=
  g_bd (if (g_rem i3 (2 : Int32)) = (1 : Int32) then (1 : Int32) else (0 : Int32)) fun x1 =>
  g_jn (fun (x2 : Int32) =>
  g_jn (fun (x4 : Int32) =>
  g_rd cwidths 24 i1 fun x6 =>
  if x6 = x2 then
  (g_rd cheights 24 i1 fun x7 =>
  if x7 = x4 then
  (f_X0_matches_L86 lefts tops cwidths cheights rows i1 i2 i3 g_fuel x2 x4 (0 : Int32))
  else
  (some (0 : Int32)))
  else
  (some (0 : Int32))) fun j57_4 =>
  if x1 = 0 then
  (g_rd cheights 24 i2 fun x23 =>
  j57_4 x23)
  else
  (g_rd cwidths 24 i2 fun x24 =>
  j57_4 x24)) fun j35_2 =>
  if x1 = 0 then
  (g_rd cwidths 24 i2 fun x25 =>
  j35_2 x25)
  else
  (g_rd cheights 24 i2 fun x26 =>
  j35_2 x26)
set_option maxRecDepth 100000 in
set_option maxHeartbeats 4000000 in
theorem c_X6_has (l : Launch) (D : va_G) (g : Nat → ClassId) (a : Nat → Nat) (o : Nat) (count : Int32) (widths : (Nat → Int32)) (heights : (Nat → Int32)) (groups : (Nat → Int32)) (rows : (Nat → Int32)) (i1 : Int32) : g_Ct l yX6_has cX6_has 2 (some .boolean) 0 0 D g [.ref (a o), .int i1] (k_Sheet g a o count widths heights groups rows) (k_Sheet g a o count widths heights groups rows) (some (.int (f_X6_has count i1))) := by
  refine g_start RX6 (by decide) rfl (Nat.le_of_ble_eq_true rfl) rfl ?_
  intro p e s m args below meth c A ls Q hQ hx hb hr hlk hml hown hT hK hA hw hl
  have hl : lv_has ls 2 [(0, .ref (a o)), (1, .int i1)] := hl
  generalize h : f_X6_has count i1 = u at hQ
  unfold f_X6_has at h
  refine lv_iload_n hx hb dX6_has_0 rfl (lv_at hl 1 rfl) ?_
  refine lv_if_lt (tgt := 16) hx hb dX6_has_1 (by decide) (fun hc1 => ?_) (fun hc1 => ?_)
  · rw [if_pos hc1] at h
    refine lv_iconst (v := 0) hx hb dX6_has_16 (by decide) ?_
    obtain rfl := h
    exact g_zret hQ hx hb hr hlk (Or.inl rfl) hw rfl dX6_has_17
  · rw [if_neg hc1] at h
    refine lv_iload_n hx hb dX6_has_4 rfl (lv_at hl 1 rfl) ?_
    refine lv_aload_n hx hb dX6_has_5 rfl (lv_at hl 0 rfl) ?_
    refine g_get hx hb hT hK hown fl_X6_24 hw 0 rfl (v := .int count) rfl dX6_has_6 ?_
    refine lv_icmp_ge (tgt := 16) hx hb dX6_has_9 (by decide) (fun hc9 => ?_) (fun hc9 => ?_)
    · rw [if_pos hc9] at h
      refine lv_iconst (v := 0) hx hb dX6_has_16 (by decide) ?_
      obtain rfl := h
      exact g_zret hQ hx hb hr hlk (Or.inl rfl) hw rfl dX6_has_17
    · rw [if_neg hc9] at h
      refine lv_iconst (v := 1) hx hb dX6_has_12 (by decide) ?_
      refine lv_goto (tgt := 17) hx hb dX6_has_13 (by decide) ?_
      obtain rfl := h
      exact g_zret hQ hx hb hr hlk (Or.inr rfl) hw rfl dX6_has_17
set_option maxRecDepth 100000 in
set_option maxHeartbeats 4000000 in
theorem c_X6_hasPixel (l : Launch) (D : va_G) (g : Nat → ClassId) (a : Nat → Nat) (o : Nat) (count : Int32) (widths : (Nat → Int32)) (heights : (Nat → Int32)) (groups : (Nat → Int32)) (rows : (Nat → Int32)) (i1 : Int32) (i2 : Int32) (i3 : Int32) (u : Int32) (h : f_X6_hasPixel count widths heights i1 i2 i3 = some u) : g_Ct l yX6_hasPixel cX6_hasPixel 4 (some .boolean) 1 21 D g [.ref (a o), .int i1, .int i2, .int i3] (k_Sheet g a o count widths heights groups rows) (k_Sheet g a o count widths heights groups rows) (some (.int u)) := by
  refine g_start RX6 (by decide) rfl (Nat.le_of_ble_eq_true rfl) rfl ?_
  intro p e s m args below meth c A ls Q hQ hx hb hr hlk hml hown hT hK hA hw hl
  have hl : lv_has ls 4 [(0, .ref (a o)), (1, .int i1), (2, .int i2), (3, .int i3)] := hl
  unfold f_X6_hasPixel at h
  refine lv_aload_n hx hb dX6_hasPixel_0 rfl (lv_at hl 0 rfl) ?_
  refine lv_iload_n hx hb dX6_hasPixel_1 rfl (lv_at hl 1 rfl) ?_
  refine g_callV hx hb hml hown hT hK hA hw mk_X6_28 (c_X6_has l D g a o count widths heights groups rows i1) [0, 1, 2, 3, 4] rfl (by decide) 0 rfl rfl rfl hl.1 [] rfl (Nat.le_of_ble_eq_true rfl) ⟨Nat.le_of_ble_eq_true rfl, Nat.le_of_ble_eq_true rfl⟩ ⟨Nat.zero_le _, Nat.zero_le _⟩ dX6_hasPixel_2 (ws' := (k_Sheet g a o count widths heights groups rows)) rfl (st2 := [.int (f_X6_has count i1)]) rfl (fun H locs hw => ?_)
  refine lv_if_eq (tgt := 40) hx hb dX6_hasPixel_5 (by decide) (fun hc5 => ?_) (fun hc5 => ?_)
  · rw [if_pos hc5] at h
    refine lv_iconst (v := 0) hx hb dX6_hasPixel_40 (by decide) ?_
    obtain rfl := Option.some.inj h
    exact g_zret hQ hx hb hr hlk (Or.inl rfl) hw rfl dX6_hasPixel_41
  · rw [if_neg hc5] at h
    refine lv_iload_n hx hb dX6_hasPixel_8 rfl (lv_at hl 2 rfl) ?_
    refine lv_if_lt (tgt := 40) hx hb dX6_hasPixel_9 (by decide) (fun hc9 => ?_) (fun hc9 => ?_)
    · rw [if_pos hc9] at h
      refine lv_iconst (v := 0) hx hb dX6_hasPixel_40 (by decide) ?_
      obtain rfl := Option.some.inj h
      exact g_zret hQ hx hb hr hlk (Or.inl rfl) hw rfl dX6_hasPixel_41
    · rw [if_neg hc9] at h
      refine lv_iload_n hx hb dX6_hasPixel_12 rfl (lv_at hl 2 rfl) ?_
      refine lv_aload_n hx hb dX6_hasPixel_13 rfl (lv_at hl 0 rfl) ?_
      refine g_get hx hb hT hK hown fl_X6_9 hw 0 rfl (v := .ref (a (o+1))) rfl dX6_hasPixel_14 ?_
      refine lv_iload_n hx hb dX6_hasPixel_17 rfl (lv_at hl 1 rfl) ?_
      obtain ⟨x1, ex1, hix1, h⟩ := g_rd_some h
      refine g_iald hx hb hK hw 1 (f := widths) rfl hix1 ex1 dX6_hasPixel_18 ?_
      refine lv_icmp_ge (tgt := 40) hx hb dX6_hasPixel_19 (by decide) (fun hc19 => ?_) (fun hc19 => ?_)
      · rw [if_pos hc19] at h
        refine lv_iconst (v := 0) hx hb dX6_hasPixel_40 (by decide) ?_
        obtain rfl := Option.some.inj h
        exact g_zret hQ hx hb hr hlk (Or.inl rfl) hw rfl dX6_hasPixel_41
      · rw [if_neg hc19] at h
        refine lv_iload_n hx hb dX6_hasPixel_22 rfl (lv_at hl 3 rfl) ?_
        refine lv_if_lt (tgt := 40) hx hb dX6_hasPixel_23 (by decide) (fun hc23 => ?_) (fun hc23 => ?_)
        · rw [if_pos hc23] at h
          refine lv_iconst (v := 0) hx hb dX6_hasPixel_40 (by decide) ?_
          obtain rfl := Option.some.inj h
          exact g_zret hQ hx hb hr hlk (Or.inl rfl) hw rfl dX6_hasPixel_41
        · rw [if_neg hc23] at h
          refine lv_iload_n hx hb dX6_hasPixel_26 rfl (lv_at hl 3 rfl) ?_
          refine lv_aload_n hx hb dX6_hasPixel_27 rfl (lv_at hl 0 rfl) ?_
          refine g_get hx hb hT hK hown fl_X6_15 hw 0 rfl (v := .ref (a (o+2))) rfl dX6_hasPixel_28 ?_
          refine lv_iload_n hx hb dX6_hasPixel_31 rfl (lv_at hl 1 rfl) ?_
          obtain ⟨x2, ex2, hix2, h⟩ := g_rd_some h
          refine g_iald hx hb hK hw 2 (f := heights) rfl hix2 ex2 dX6_hasPixel_32 ?_
          refine lv_icmp_ge (tgt := 40) hx hb dX6_hasPixel_33 (by decide) (fun hc33 => ?_) (fun hc33 => ?_)
          · rw [if_pos hc33] at h
            refine lv_iconst (v := 0) hx hb dX6_hasPixel_40 (by decide) ?_
            obtain rfl := Option.some.inj h
            exact g_zret hQ hx hb hr hlk (Or.inl rfl) hw rfl dX6_hasPixel_41
          · rw [if_neg hc33] at h
            refine lv_iconst (v := 1) hx hb dX6_hasPixel_36 (by decide) ?_
            refine lv_goto (tgt := 41) hx hb dX6_hasPixel_37 (by decide) ?_
            obtain rfl := Option.some.inj h
            exact g_zret hQ hx hb hr hlk (Or.inr rfl) hw rfl dX6_hasPixel_41
set_option maxRecDepth 100000 in
set_option maxHeartbeats 4000000 in
theorem c_X6_colorAt (l : Launch) (D : va_G) (g : Nat → ClassId) (a : Nat → Nat) (o : Nat) (count : Int32) (widths : (Nat → Int32)) (heights : (Nat → Int32)) (groups : (Nat → Int32)) (rows : (Nat → Int32)) (i1 : Int32) (i2 : Int32) (i3 : Int32) (u : Int32) (h : f_X6_colorAt rows i1 i2 i3 = some u) : g_Ct l yX6_colorAt cX6_colorAt 5 (some .int) 0 0 D g [.ref (a o), .int i1, .int i2, .int i3] (k_Sheet g a o count widths heights groups rows) (k_Sheet g a o count widths heights groups rows) (some (.int u)) := by
  refine g_start RX6 (by decide) rfl (Nat.le_of_ble_eq_true rfl) rfl ?_
  intro p e s m args below meth c A ls Q hQ hx hb hr hlk hml hown hT hK hA hw hl
  have hl : lv_has ls 5 [(0, .ref (a o)), (1, .int i1), (2, .int i2), (3, .int i3)] := hl
  unfold f_X6_colorAt at h
  refine lv_iload_n hx hb dX6_colorAt_0 rfl (lv_at hl 1 rfl) ?_
  refine lv_bipush (v := 8) hx hb dX6_colorAt_1 (by decide) ?_
  refine lv_imul hx hb dX6_colorAt_3 ?_
  refine lv_iload_n hx hb dX6_colorAt_4 rfl (lv_at hl 3 rfl) ?_
  refine lv_iadd hx hb dX6_colorAt_5 ?_
  obtain ⟨x1, ex1, h⟩ := g_bd_nm h
  refine g_topi ex1 ?_
  refine lv_istore (lv' := [(4, .int x1), (0, .ref (a o)), (1, .int i1), (2, .int i2), (3, .int i3)]) hx hb dX6_colorAt_6 hl (by decide) rfl (fun ls hl => ?_)
  refine lv_iload hx hb dX6_colorAt_8 (lv_at hl 0 rfl) ?_
  refine lv_if_lt (tgt := 40) hx hb dX6_colorAt_10 (by decide) (fun hc10 => ?_) (fun hc10 => ?_)
  · rw [if_pos hc10] at h
    refine lv_iconst (v := 0) hx hb dX6_colorAt_40 (by decide) ?_
    obtain rfl := Option.some.inj h
    exact g_iret hQ hx hb hr hlk hw rfl dX6_colorAt_41
  · rw [if_neg hc10] at h
    refine lv_iload hx hb dX6_colorAt_13 (lv_at hl 0 rfl) ?_
    refine lv_aload_n hx hb dX6_colorAt_15 rfl (lv_at hl 1 rfl) ?_
    refine g_get hx hb hT hK hown fl_X6_21 hw 0 rfl (v := .ref (a (o+4))) rfl dX6_colorAt_16 ?_
    refine g_alenI hx hb hK hw 4 0 rfl rfl (v := (192 : Int32)) rfl dX6_colorAt_19 ?_
    refine lv_icmp_ge (tgt := 40) hx hb dX6_colorAt_20 (by decide) (fun hc20 => ?_) (fun hc20 => ?_)
    · rw [if_pos hc20] at h
      refine lv_iconst (v := 0) hx hb dX6_colorAt_40 (by decide) ?_
      obtain rfl := Option.some.inj h
      exact g_iret hQ hx hb hr hlk hw rfl dX6_colorAt_41
    · rw [if_neg hc20] at h
      refine lv_aload_n hx hb dX6_colorAt_23 rfl (lv_at hl 1 rfl) ?_
      refine g_get hx hb hT hK hown fl_X6_21 hw 0 rfl (v := .ref (a (o+4))) rfl dX6_colorAt_24 ?_
      refine lv_iload hx hb dX6_colorAt_27 (lv_at hl 0 rfl) ?_
      obtain ⟨x2, ex2, hix2, h⟩ := g_rd_some h
      refine g_iald hx hb hK hw 4 (f := rows) rfl hix2 ex2 dX6_colorAt_29 ?_
      refine lv_iconst (v := 4) hx hb dX6_colorAt_30 (by decide) ?_
      refine lv_iload_n hx hb dX6_colorAt_31 rfl (lv_at hl 3 rfl) ?_
      refine lv_imul hx hb dX6_colorAt_32 ?_
      refine g_iushr hx hb dX6_colorAt_33 ?_
      refine lv_bipush (v := 15) hx hb dX6_colorAt_34 (by decide) ?_
      refine lv_iand hx hb dX6_colorAt_36 ?_
      refine lv_goto (tgt := 41) hx hb dX6_colorAt_37 (by decide) ?_
      obtain rfl := Option.some.inj h
      exact g_iret hQ hx hb hr hlk hw rfl dX6_colorAt_41
set_option maxRecDepth 100000 in
set_option maxHeartbeats 4000000 in
theorem c_X6_rowOf (l : Launch) (D : va_G) (g : Nat → ClassId) (a : Nat → Nat) (o : Nat) (count : Int32) (widths : (Nat → Int32)) (heights : (Nat → Int32)) (groups : (Nat → Int32)) (rows : (Nat → Int32)) (i1 : Int32) (i2 : Int32) (u : Int32) (h : f_X6_rowOf rows i1 i2 = some u) : g_Ct l yX6_rowOf cX6_rowOf 4 (some .int) 0 0 D g [.ref (a o), .int i1, .int i2] (k_Sheet g a o count widths heights groups rows) (k_Sheet g a o count widths heights groups rows) (some (.int u)) := by
  refine g_start RX6 (by decide) rfl (Nat.le_of_ble_eq_true rfl) rfl ?_
  intro p e s m args below meth c A ls Q hQ hx hb hr hlk hml hown hT hK hA hw hl
  have hl : lv_has ls 4 [(0, .ref (a o)), (1, .int i1), (2, .int i2)] := hl
  unfold f_X6_rowOf at h
  refine lv_iload_n hx hb dX6_rowOf_0 rfl (lv_at hl 1 rfl) ?_
  refine lv_bipush (v := 8) hx hb dX6_rowOf_1 (by decide) ?_
  refine lv_imul hx hb dX6_rowOf_3 ?_
  refine lv_iload_n hx hb dX6_rowOf_4 rfl (lv_at hl 2 rfl) ?_
  refine lv_iadd hx hb dX6_rowOf_5 ?_
  obtain ⟨x1, ex1, h⟩ := g_bd_nm h
  refine g_topi ex1 ?_
  refine lv_istore_n (lv' := [(3, .int x1), (0, .ref (a o)), (1, .int i1), (2, .int i2)]) hx hb dX6_rowOf_6 rfl hl (by decide) rfl (fun ls hl => ?_)
  refine lv_iload_n hx hb dX6_rowOf_7 rfl (lv_at hl 0 rfl) ?_
  refine lv_if_lt (tgt := 29) hx hb dX6_rowOf_8 (by decide) (fun hc8 => ?_) (fun hc8 => ?_)
  · rw [if_pos hc8] at h
    refine lv_iconst (v := 0) hx hb dX6_rowOf_29 (by decide) ?_
    obtain rfl := Option.some.inj h
    exact g_iret hQ hx hb hr hlk hw rfl dX6_rowOf_30
  · rw [if_neg hc8] at h
    refine lv_iload_n hx hb dX6_rowOf_11 rfl (lv_at hl 0 rfl) ?_
    refine lv_aload_n hx hb dX6_rowOf_12 rfl (lv_at hl 1 rfl) ?_
    refine g_get hx hb hT hK hown fl_X6_21 hw 0 rfl (v := .ref (a (o+4))) rfl dX6_rowOf_13 ?_
    refine g_alenI hx hb hK hw 4 0 rfl rfl (v := (192 : Int32)) rfl dX6_rowOf_16 ?_
    refine lv_icmp_ge (tgt := 29) hx hb dX6_rowOf_17 (by decide) (fun hc17 => ?_) (fun hc17 => ?_)
    · rw [if_pos hc17] at h
      refine lv_iconst (v := 0) hx hb dX6_rowOf_29 (by decide) ?_
      obtain rfl := Option.some.inj h
      exact g_iret hQ hx hb hr hlk hw rfl dX6_rowOf_30
    · rw [if_neg hc17] at h
      refine lv_aload_n hx hb dX6_rowOf_20 rfl (lv_at hl 1 rfl) ?_
      refine g_get hx hb hT hK hown fl_X6_21 hw 0 rfl (v := .ref (a (o+4))) rfl dX6_rowOf_21 ?_
      refine lv_iload_n hx hb dX6_rowOf_24 rfl (lv_at hl 0 rfl) ?_
      obtain ⟨x2, ex2, hix2, h⟩ := g_rd_some h
      refine g_iald hx hb hK hw 4 (f := rows) rfl hix2 ex2 dX6_rowOf_25 ?_
      refine lv_goto (tgt := 30) hx hb dX6_rowOf_26 (by decide) ?_
      obtain rfl := Option.some.inj h
      exact g_iret hQ hx hb hr hlk hw rfl dX6_rowOf_30
set_option maxRecDepth 100000 in
set_option maxHeartbeats 4000000 in
theorem c_X6_setColor (l : Launch) (D : va_G) (g : Nat → ClassId) (a : Nat → Nat) (o : Nat) (count : Int32) (widths : (Nat → Int32)) (heights : (Nat → Int32)) (groups : (Nat → Int32)) (rows : (Nat → Int32)) (i1 : Int32) (i2 : Int32) (i3 : Int32) (i4 : Int32) (u : (Nat → Int32)) (h : f_X6_setColor count widths heights rows i1 i2 i3 i4 = some u) : g_Ct l yX6_setColor cX6_setColor 6 none 2 44 D g [.ref (a o), .int i1, .int i2, .int i3, .int i4] (k_Sheet g a o count widths heights groups rows) (k_Sheet g a o count widths heights groups u) none := by
  refine g_start RX6 (by decide) rfl (Nat.le_of_ble_eq_true rfl) rfl ?_
  intro p e s m args below meth c A ls Q hQ hx hb hr hlk hml hown hT hK hA hw hl
  have hl : lv_has ls 6 [(0, .ref (a o)), (1, .int i1), (2, .int i2), (3, .int i3), (4, .int i4)] := hl
  unfold f_X6_setColor at h
  refine lv_aload_n hx hb dX6_setColor_0 rfl (lv_at hl 0 rfl) ?_
  refine lv_iload_n hx hb dX6_setColor_1 rfl (lv_at hl 1 rfl) ?_
  refine lv_iload_n hx hb dX6_setColor_2 rfl (lv_at hl 2 rfl) ?_
  refine lv_iload_n hx hb dX6_setColor_3 rfl (lv_at hl 3 rfl) ?_
  obtain ⟨r1, er1, h⟩ := g_cl_some h
  refine g_callV hx hb hml hown hT hK hA hw mk_X6_32 (c_X6_hasPixel l D g a o count widths heights groups rows i1 i2 i3 r1 er1) [0, 1, 2, 3, 4] rfl (by decide) 0 rfl rfl rfl hl.1 [] rfl (Nat.le_of_ble_eq_true rfl) ⟨Nat.le_of_ble_eq_true rfl, Nat.le_of_ble_eq_true rfl⟩ ⟨Nat.zero_le _, Nat.zero_le _⟩ dX6_setColor_4 (ws' := (k_Sheet g a o count widths heights groups rows)) rfl (st2 := [.int r1]) rfl (fun H locs hw => ?_)
  refine lv_if_eq (tgt := 48) hx hb dX6_setColor_7 (by decide) (fun hc7 => ?_) (fun hc7 => ?_)
  · rw [if_pos hc7] at h
    obtain rfl := Option.some.inj h
    exact g_vret hQ hx hb hr hlk hw rfl dX6_setColor_48
  · rw [if_neg hc7] at h
    refine lv_iload_n hx hb dX6_setColor_10 rfl (lv_at hl 1 rfl) ?_
    refine lv_bipush (v := 8) hx hb dX6_setColor_11 (by decide) ?_
    refine lv_imul hx hb dX6_setColor_13 ?_
    refine lv_iload_n hx hb dX6_setColor_14 rfl (lv_at hl 3 rfl) ?_
    refine lv_iadd hx hb dX6_setColor_15 ?_
    obtain ⟨x2, ex2, h⟩ := g_bd_nm h
    refine g_topi ex2 ?_
    refine lv_istore (lv' := [(5, .int x2), (0, .ref (a o)), (1, .int i1), (2, .int i2), (3, .int i3), (4, .int i4)]) hx hb dX6_setColor_16 hl (by decide) rfl (fun ls hl => ?_)
    refine lv_aload_n hx hb dX6_setColor_18 rfl (lv_at hl 1 rfl) ?_
    refine g_get hx hb hT hK hown fl_X6_21 hw 0 rfl (v := .ref (a (o+4))) rfl dX6_setColor_19 ?_
    refine lv_iload hx hb dX6_setColor_22 (lv_at hl 0 rfl) ?_
    refine lv_aload_n hx hb dX6_setColor_24 rfl (lv_at hl 1 rfl) ?_
    refine g_get hx hb hT hK hown fl_X6_21 hw 0 rfl (v := .ref (a (o+4))) rfl dX6_setColor_25 ?_
    refine lv_iload hx hb dX6_setColor_28 (lv_at hl 0 rfl) ?_
    obtain ⟨x3, ex3, hix3, h⟩ := g_rd_some h
    refine g_iald hx hb hK hw 4 (f := rows) rfl hix3 ex3 dX6_setColor_30 ?_
    refine lv_bipush (v := 15) hx hb dX6_setColor_31 (by decide) ?_
    refine lv_iconst (v := 4) hx hb dX6_setColor_33 (by decide) ?_
    refine lv_iload_n hx hb dX6_setColor_34 rfl (lv_at hl 3 rfl) ?_
    refine lv_imul hx hb dX6_setColor_35 ?_
    refine g_ishl hx hb dX6_setColor_36 ?_
    refine lv_iconst (v := -1) hx hb dX6_setColor_37 (by decide) ?_
    refine lv_ixor hx hb dX6_setColor_38 ?_
    refine lv_iand hx hb dX6_setColor_39 ?_
    refine lv_iload hx hb dX6_setColor_40 (lv_at hl 5 rfl) ?_
    refine lv_iconst (v := 4) hx hb dX6_setColor_42 (by decide) ?_
    refine lv_iload_n hx hb dX6_setColor_43 rfl (lv_at hl 3 rfl) ?_
    refine lv_imul hx hb dX6_setColor_44 ?_
    refine g_ishl hx hb dX6_setColor_45 ?_
    refine lv_ior hx hb dX6_setColor_46 ?_
    obtain ⟨x4, ex4, h⟩ := g_bd_nm h
    refine g_topi ex4 ?_
    obtain ⟨f5, ef5, hif5, h⟩ := g_wr_some h
    refine g_iast hx hb hK hw 4 (f := rows) rfl hif5 ef5 (ws' := (k_Sheet g a o count widths heights groups f5)) rfl dX6_setColor_47 (fun H locs hw => ?_)
    obtain rfl := Option.some.inj h
    exact g_vret hQ hx hb hr hlk hw rfl dX6_setColor_48
set_option maxRecDepth 100000 in
set_option maxHeartbeats 4000000 in
theorem c_X6_remove (l : Launch) (D : va_G) (g : Nat → ClassId) (a : Nat → Nat) (o : Nat) (count : Int32) (widths : (Nat → Int32)) (heights : (Nat → Int32)) (groups : (Nat → Int32)) (rows : (Nat → Int32)) (i1 : Int32) (u : Int32 × (Nat → Int32) × (Nat → Int32) × (Nat → Int32) × (Nat → Int32)) (h : f_X6_remove count widths heights groups rows i1 = some u) : g_Ct l yX6_remove cX6_remove 4 none 1 21 D g [.ref (a o), .int i1] (k_Sheet g a o count widths heights groups rows) (k_Sheet g a o u.1 u.2.1 u.2.2.1 u.2.2.2.1 u.2.2.2.2) none := by
  refine g_start RX6 (by decide) rfl (Nat.le_of_ble_eq_true rfl) rfl ?_
  intro p e s m args below meth c A ls Q hQ hx hb hr hlk hml hown hT hK hA hw hl
  have hl : lv_has ls 4 [(0, .ref (a o)), (1, .int i1)] := hl
  unfold f_X6_remove at h
  refine lv_aload_n hx hb dX6_remove_0 rfl (lv_at hl 0 rfl) ?_
  refine lv_iload_n hx hb dX6_remove_1 rfl (lv_at hl 1 rfl) ?_
  refine g_callV hx hb hml hown hT hK hA hw mk_X6_28 (c_X6_has l D g a o count widths heights groups rows i1) [0, 1, 2, 3, 4] rfl (by decide) 0 rfl rfl rfl hl.1 [] rfl (Nat.le_of_ble_eq_true rfl) ⟨Nat.le_of_ble_eq_true rfl, Nat.le_of_ble_eq_true rfl⟩ ⟨Nat.zero_le _, Nat.zero_le _⟩ dX6_remove_2 (ws' := (k_Sheet g a o count widths heights groups rows)) rfl (st2 := [.int (f_X6_has count i1)]) rfl (fun H locs hw => ?_)
  refine lv_if_ne (tgt := 9) hx hb dX6_remove_5 (by decide) (fun hc5 => ?_) (fun hc5 => ?_)
  · rw [if_neg hc5] at h
    refine lv_aload_n hx hb dX6_remove_9 rfl (lv_at hl 0 rfl) ?_
    refine g_get hx hb hT hK hown fl_X6_24 hw 0 rfl (v := .int count) rfl dX6_remove_10 ?_
    refine lv_iload_n hx hb dX6_remove_13 rfl (lv_at hl 1 rfl) ?_
    refine lv_isub hx hb dX6_remove_14 ?_
    refine lv_iconst (v := 1) hx hb dX6_remove_15 (by decide) ?_
    refine lv_isub hx hb dX6_remove_16 ?_
    obtain ⟨x1, ex1, h⟩ := g_bd_nm h
    refine g_topi ex1 ?_
    refine lv_istore_n (lv' := [(2, .int x1), (0, .ref (a o)), (1, .int i1)]) hx hb dX6_remove_17 rfl hl (by decide) rfl (fun ls hl => ?_)
    refine lv_aload_n hx hb dX6_remove_18 rfl (lv_at hl 1 rfl) ?_
    refine g_get hx hb hT hK hown fl_X6_9 hw 0 rfl (v := .ref (a (o+1))) rfl dX6_remove_19 ?_
    refine lv_iload_n hx hb dX6_remove_22 rfl (lv_at hl 2 rfl) ?_
    refine lv_iconst (v := 1) hx hb dX6_remove_23 (by decide) ?_
    refine lv_iadd hx hb dX6_remove_24 ?_
    refine lv_aload_n hx hb dX6_remove_25 rfl (lv_at hl 1 rfl) ?_
    refine g_get hx hb hT hK hown fl_X6_9 hw 0 rfl (v := .ref (a (o+1))) rfl dX6_remove_26 ?_
    refine lv_iload_n hx hb dX6_remove_29 rfl (lv_at hl 2 rfl) ?_
    refine lv_iload_n hx hb dX6_remove_30 rfl (lv_at hl 0 rfl) ?_
    obtain ⟨f2, ef2, hof2, h⟩ := g_cpy_some h
    refine g_copyi hx hb hml hl.1 hown hT hK hw ac_X6_42 ac_nat ac_st ac_ini 1 1 0 (f := widths) (f1 := widths) rfl rfl rfl rfl hof2 (fun _ _ => rfl) ef2 (ws' := (k_Sheet g a o count f2 heights groups rows)) rfl (Nat.le_of_ble_eq_true rfl) (Nat.le_of_ble_eq_true rfl) dX6_remove_31 (fun H locs hw => ?_)
    refine lv_aload_n hx hb dX6_remove_34 rfl (lv_at hl 1 rfl) ?_
    refine g_get hx hb hT hK hown fl_X6_15 hw 0 rfl (v := .ref (a (o+2))) rfl dX6_remove_35 ?_
    refine lv_iload_n hx hb dX6_remove_38 rfl (lv_at hl 2 rfl) ?_
    refine lv_iconst (v := 1) hx hb dX6_remove_39 (by decide) ?_
    refine lv_iadd hx hb dX6_remove_40 ?_
    refine lv_aload_n hx hb dX6_remove_41 rfl (lv_at hl 1 rfl) ?_
    refine g_get hx hb hT hK hown fl_X6_15 hw 0 rfl (v := .ref (a (o+2))) rfl dX6_remove_42 ?_
    refine lv_iload_n hx hb dX6_remove_45 rfl (lv_at hl 2 rfl) ?_
    refine lv_iload_n hx hb dX6_remove_46 rfl (lv_at hl 0 rfl) ?_
    obtain ⟨f3, ef3, hof3, h⟩ := g_cpy_some h
    refine g_copyi hx hb hml hl.1 hown hT hK hw ac_X6_42 ac_nat ac_st ac_ini 2 2 0 (f := heights) (f1 := heights) rfl rfl rfl rfl hof3 (fun _ _ => rfl) ef3 (ws' := (k_Sheet g a o count f2 f3 groups rows)) rfl (Nat.le_of_ble_eq_true rfl) (Nat.le_of_ble_eq_true rfl) dX6_remove_47 (fun H locs hw => ?_)
    refine lv_aload_n hx hb dX6_remove_50 rfl (lv_at hl 1 rfl) ?_
    refine g_get hx hb hT hK hown fl_X6_18 hw 0 rfl (v := .ref (a (o+3))) rfl dX6_remove_51 ?_
    refine lv_iload_n hx hb dX6_remove_54 rfl (lv_at hl 2 rfl) ?_
    refine lv_iconst (v := 1) hx hb dX6_remove_55 (by decide) ?_
    refine lv_iadd hx hb dX6_remove_56 ?_
    refine lv_aload_n hx hb dX6_remove_57 rfl (lv_at hl 1 rfl) ?_
    refine g_get hx hb hT hK hown fl_X6_18 hw 0 rfl (v := .ref (a (o+3))) rfl dX6_remove_58 ?_
    refine lv_iload_n hx hb dX6_remove_61 rfl (lv_at hl 2 rfl) ?_
    refine lv_iload_n hx hb dX6_remove_62 rfl (lv_at hl 0 rfl) ?_
    obtain ⟨f4, ef4, hof4, h⟩ := g_cpy_some h
    refine g_copyi hx hb hml hl.1 hown hT hK hw ac_X6_42 ac_nat ac_st ac_ini 3 3 0 (f := groups) (f1 := groups) rfl rfl rfl rfl hof4 (fun _ _ => rfl) ef4 (ws' := (k_Sheet g a o count f2 f3 f4 rows)) rfl (Nat.le_of_ble_eq_true rfl) (Nat.le_of_ble_eq_true rfl) dX6_remove_63 (fun H locs hw => ?_)
    refine lv_iload_n hx hb dX6_remove_66 rfl (lv_at hl 2 rfl) ?_
    refine lv_bipush (v := 8) hx hb dX6_remove_67 (by decide) ?_
    refine lv_imul hx hb dX6_remove_69 ?_
    obtain ⟨x5, ex5, h⟩ := g_bd_nm h
    refine g_topi ex5 ?_
    refine lv_istore_n (lv' := [(3, .int x5), (2, .int x1), (0, .ref (a o)), (1, .int i1)]) hx hb dX6_remove_70 rfl hl (by decide) rfl (fun ls hl => ?_)
    refine lv_aload_n hx hb dX6_remove_71 rfl (lv_at hl 2 rfl) ?_
    refine g_get hx hb hT hK hown fl_X6_21 hw 0 rfl (v := .ref (a (o+4))) rfl dX6_remove_72 ?_
    refine lv_iload_n hx hb dX6_remove_75 rfl (lv_at hl 0 rfl) ?_
    refine lv_bipush (v := 8) hx hb dX6_remove_76 (by decide) ?_
    refine lv_iadd hx hb dX6_remove_78 ?_
    refine lv_aload_n hx hb dX6_remove_79 rfl (lv_at hl 2 rfl) ?_
    refine g_get hx hb hT hK hown fl_X6_21 hw 0 rfl (v := .ref (a (o+4))) rfl dX6_remove_80 ?_
    refine lv_iload_n hx hb dX6_remove_83 rfl (lv_at hl 0 rfl) ?_
    refine lv_iload_n hx hb dX6_remove_84 rfl (lv_at hl 1 rfl) ?_
    refine lv_bipush (v := 8) hx hb dX6_remove_85 (by decide) ?_
    refine lv_imul hx hb dX6_remove_87 ?_
    obtain ⟨f6, ef6, hof6, h⟩ := g_cpy_some h
    refine g_copyi hx hb hml hl.1 hown hT hK hw ac_X6_42 ac_nat ac_st ac_ini 4 4 0 (f := rows) (f1 := rows) rfl rfl rfl rfl hof6 (fun _ _ => rfl) ef6 (ws' := (k_Sheet g a o count f2 f3 f4 f6)) rfl (Nat.le_of_ble_eq_true rfl) (Nat.le_of_ble_eq_true rfl) dX6_remove_88 (fun H locs hw => ?_)
    refine lv_aload_n hx hb dX6_remove_91 rfl (lv_at hl 2 rfl) ?_
    refine lv_dup hx hb dX6_remove_92 rfl ?_
    refine g_get hx hb hT hK hown fl_X6_24 hw 0 rfl (v := .int count) rfl dX6_remove_93 ?_
    refine lv_iconst (v := 1) hx hb dX6_remove_96 (by decide) ?_
    refine lv_isub hx hb dX6_remove_97 ?_
    obtain ⟨x7, ex7, h⟩ := g_bd_nm h
    refine g_topi ex7 ?_
    refine g_putf hx hb hT hK hown fl_X6_24 ft_X6 hw 0 rfl rfl rfl rfl (Nat.le_of_ble_eq_true rfl) (ws' := (k_Sheet g a o x7 f2 f3 f4 f6)) rfl dX6_remove_98 (fun H locs hw => ?_)
    obtain rfl := Option.some.inj h
    exact g_vret hQ hx hb hr hlk hw rfl dX6_remove_101
  · rw [if_pos hc5] at h
    obtain rfl := Option.some.inj h
    exact g_vret hQ hx hb hr hlk hw rfl dX6_remove_8
set_option maxRecDepth 100000 in
set_option maxHeartbeats 4000000 in
theorem c_X6_copyFrom (l : Launch) (D : va_G) (g : Nat → ClassId) (a : Nat → Nat) (o : Nat) (a1 : Nat → Nat) (o1 : Nat) (count : Int32) (widths : (Nat → Int32)) (heights : (Nat → Int32)) (groups : (Nat → Int32)) (rows : (Nat → Int32)) (count1 : Int32) (widths1 : (Nat → Int32)) (heights1 : (Nat → Int32)) (groups1 : (Nat → Int32)) (rows1 : (Nat → Int32)) (u : Int32 × (Nat → Int32) × (Nat → Int32) × (Nat → Int32) × (Nat → Int32)) (h : f_X6_copyFrom widths heights groups rows count1 widths1 heights1 groups1 rows1 = some u) : g_Ct l yX6_copyFrom cX6_copyFrom 2 none 1 18 D g [.ref (a o), .ref (a1 o1)] (k_Sheet g a o count widths heights groups rows ++ (k_Sheet g a1 o1 count1 widths1 heights1 groups1 rows1)) (k_Sheet g a o u.1 u.2.1 u.2.2.1 u.2.2.2.1 u.2.2.2.2 ++ (k_Sheet g a1 o1 count1 widths1 heights1 groups1 rows1)) none := by
  refine g_start RX6 (by decide) rfl (Nat.le_of_ble_eq_true rfl) rfl ?_
  intro p e s m args below meth c A ls Q hQ hx hb hr hlk hml hown hT hK hA hw hl
  have hl : lv_has ls 2 [(0, .ref (a o)), (1, .ref (a1 o1))] := hl
  unfold f_X6_copyFrom at h
  refine lv_aload_n hx hb dX6_copyFrom_0 rfl (lv_at hl 0 rfl) ?_
  refine lv_aload_n hx hb dX6_copyFrom_1 rfl (lv_at hl 1 rfl) ?_
  refine g_get hx hb hT hK hown fl_X6_24 hw 5 rfl (v := .int count1) rfl dX6_copyFrom_2 ?_
  refine g_putf hx hb hT hK hown fl_X6_24 ft_X6 hw 0 rfl rfl rfl rfl (Nat.le_of_ble_eq_true rfl) (ws' := (k_Sheet g a o count1 widths heights groups rows ++ (k_Sheet g a1 o1 count1 widths1 heights1 groups1 rows1))) rfl dX6_copyFrom_5 (fun H locs hw => ?_)
  refine lv_aload_n hx hb dX6_copyFrom_8 rfl (lv_at hl 1 rfl) ?_
  refine g_get hx hb hT hK hown fl_X6_9 hw 5 rfl (v := .ref (a1 (o1+1))) rfl dX6_copyFrom_9 ?_
  refine lv_iconst (v := 0) hx hb dX6_copyFrom_12 (by decide) ?_
  refine lv_aload_n hx hb dX6_copyFrom_13 rfl (lv_at hl 0 rfl) ?_
  refine g_get hx hb hT hK hown fl_X6_9 hw 0 rfl (v := .ref (a (o+1))) rfl dX6_copyFrom_14 ?_
  refine lv_iconst (v := 0) hx hb dX6_copyFrom_17 (by decide) ?_
  refine lv_bipush (v := 24) hx hb dX6_copyFrom_18 (by decide) ?_
  obtain ⟨f1, ef1, hof1, h⟩ := g_cpy_some h
  refine g_copyi hx hb hml hl.1 hown hT hK hw ac_X6_42 ac_nat ac_st ac_ini 6 1 0 (f := widths1) (f1 := widths) rfl rfl rfl rfl hof1 (fun _ _ => rfl) ef1 (ws' := (k_Sheet g a o count1 f1 heights groups rows ++ (k_Sheet g a1 o1 count1 widths1 heights1 groups1 rows1))) rfl (Nat.le_of_ble_eq_true rfl) (Nat.le_of_ble_eq_true rfl) dX6_copyFrom_20 (fun H locs hw => ?_)
  refine lv_aload_n hx hb dX6_copyFrom_23 rfl (lv_at hl 1 rfl) ?_
  refine g_get hx hb hT hK hown fl_X6_15 hw 5 rfl (v := .ref (a1 (o1+2))) rfl dX6_copyFrom_24 ?_
  refine lv_iconst (v := 0) hx hb dX6_copyFrom_27 (by decide) ?_
  refine lv_aload_n hx hb dX6_copyFrom_28 rfl (lv_at hl 0 rfl) ?_
  refine g_get hx hb hT hK hown fl_X6_15 hw 0 rfl (v := .ref (a (o+2))) rfl dX6_copyFrom_29 ?_
  refine lv_iconst (v := 0) hx hb dX6_copyFrom_32 (by decide) ?_
  refine lv_bipush (v := 24) hx hb dX6_copyFrom_33 (by decide) ?_
  obtain ⟨f2, ef2, hof2, h⟩ := g_cpy_some h
  refine g_copyi hx hb hml hl.1 hown hT hK hw ac_X6_42 ac_nat ac_st ac_ini 7 2 0 (f := heights1) (f1 := heights) rfl rfl rfl rfl hof2 (fun _ _ => rfl) ef2 (ws' := (k_Sheet g a o count1 f1 f2 groups rows ++ (k_Sheet g a1 o1 count1 widths1 heights1 groups1 rows1))) rfl (Nat.le_of_ble_eq_true rfl) (Nat.le_of_ble_eq_true rfl) dX6_copyFrom_35 (fun H locs hw => ?_)
  refine lv_aload_n hx hb dX6_copyFrom_38 rfl (lv_at hl 1 rfl) ?_
  refine g_get hx hb hT hK hown fl_X6_18 hw 5 rfl (v := .ref (a1 (o1+3))) rfl dX6_copyFrom_39 ?_
  refine lv_iconst (v := 0) hx hb dX6_copyFrom_42 (by decide) ?_
  refine lv_aload_n hx hb dX6_copyFrom_43 rfl (lv_at hl 0 rfl) ?_
  refine g_get hx hb hT hK hown fl_X6_18 hw 0 rfl (v := .ref (a (o+3))) rfl dX6_copyFrom_44 ?_
  refine lv_iconst (v := 0) hx hb dX6_copyFrom_47 (by decide) ?_
  refine lv_bipush (v := 24) hx hb dX6_copyFrom_48 (by decide) ?_
  obtain ⟨f3, ef3, hof3, h⟩ := g_cpy_some h
  refine g_copyi hx hb hml hl.1 hown hT hK hw ac_X6_42 ac_nat ac_st ac_ini 8 3 0 (f := groups1) (f1 := groups) rfl rfl rfl rfl hof3 (fun _ _ => rfl) ef3 (ws' := (k_Sheet g a o count1 f1 f2 f3 rows ++ (k_Sheet g a1 o1 count1 widths1 heights1 groups1 rows1))) rfl (Nat.le_of_ble_eq_true rfl) (Nat.le_of_ble_eq_true rfl) dX6_copyFrom_50 (fun H locs hw => ?_)
  refine lv_aload_n hx hb dX6_copyFrom_53 rfl (lv_at hl 1 rfl) ?_
  refine g_get hx hb hT hK hown fl_X6_21 hw 5 rfl (v := .ref (a1 (o1+4))) rfl dX6_copyFrom_54 ?_
  refine lv_iconst (v := 0) hx hb dX6_copyFrom_57 (by decide) ?_
  refine lv_aload_n hx hb dX6_copyFrom_58 rfl (lv_at hl 0 rfl) ?_
  refine g_get hx hb hT hK hown fl_X6_21 hw 0 rfl (v := .ref (a (o+4))) rfl dX6_copyFrom_59 ?_
  refine lv_iconst (v := 0) hx hb dX6_copyFrom_62 (by decide) ?_
  refine lv_sipush (v := 192) hx hb dX6_copyFrom_63 (by decide) ?_
  obtain ⟨f4, ef4, hof4, h⟩ := g_cpy_some h
  refine g_copyi hx hb hml hl.1 hown hT hK hw ac_X6_42 ac_nat ac_st ac_ini 9 4 0 (f := rows1) (f1 := rows) rfl rfl rfl rfl hof4 (fun _ _ => rfl) ef4 (ws' := (k_Sheet g a o count1 f1 f2 f3 f4 ++ (k_Sheet g a1 o1 count1 widths1 heights1 groups1 rows1))) rfl (Nat.le_of_ble_eq_true rfl) (Nat.le_of_ble_eq_true rfl) dX6_copyFrom_66 (fun H locs hw => ?_)
  obtain rfl := Option.some.inj h
  exact g_vret hQ hx hb hr hlk hw rfl dX6_copyFrom_69
set_option maxRecDepth 100000 in
set_option maxHeartbeats 4000000 in
theorem c_X0_isBlank (l : Launch) (D : va_G) (g : Nat → ClassId) (a : Nat → Nat) (o : Nat) (lefts : (Nat → Int32)) (tops : (Nat → Int32)) (cwidths : (Nat → Int32)) (cheights : (Nat → Int32)) (originals : (Nat → Int32)) (orients : (Nat → Int32)) (i1 : Int32) (u : Int32) (h : f_X0_isBlank cwidths i1 = some u) : g_Ct l yX0_isBlank cX0_isBlank 2 (some .boolean) 0 0 D g [.ref (a o), .int i1] (k_Catalog g a o lefts tops cwidths cheights originals orients) (k_Catalog g a o lefts tops cwidths cheights originals orients) (some (.int u)) := by
  refine g_start RX0 (by decide) rfl (Nat.le_of_ble_eq_true rfl) rfl ?_
  intro p e s m args below meth c A ls Q hQ hx hb hr hlk hml hown hT hK hA hw hl
  have hl : lv_has ls 2 [(0, .ref (a o)), (1, .int i1)] := hl
  unfold f_X0_isBlank at h
  refine lv_aload_n hx hb dX0_isBlank_0 rfl (lv_at hl 0 rfl) ?_
  refine g_get hx hb hT hK hown fl_X0_18 hw 0 rfl (v := .ref (a (o+3))) rfl dX0_isBlank_1 ?_
  refine lv_iload_n hx hb dX0_isBlank_4 rfl (lv_at hl 1 rfl) ?_
  obtain ⟨x1, ex1, hix1, h⟩ := g_rd_some h
  refine g_iald hx hb hK hw 3 (f := cwidths) rfl hix1 ex1 dX0_isBlank_5 ?_
  refine lv_if_ne (tgt := 13) hx hb dX0_isBlank_6 (by decide) (fun hc6 => ?_) (fun hc6 => ?_)
  · rw [if_neg hc6] at h
    refine lv_iconst (v := 0) hx hb dX0_isBlank_13 (by decide) ?_
    obtain rfl := Option.some.inj h
    exact g_zret hQ hx hb hr hlk (Or.inl rfl) hw rfl dX0_isBlank_14
  · rw [if_pos hc6] at h
    refine lv_iconst (v := 1) hx hb dX0_isBlank_9 (by decide) ?_
    refine lv_goto (tgt := 14) hx hb dX0_isBlank_10 (by decide) ?_
    obtain rfl := Option.some.inj h
    exact g_zret hQ hx hb hr hlk (Or.inr rfl) hw rfl dX0_isBlank_14
set_option maxRecDepth 100000 in
set_option maxHeartbeats 4000000 in
theorem c_X0_colorIn (l : Launch) (D : va_G) (g : Nat → ClassId) (a : Nat → Nat) (o : Nat) (a1 : Nat → Nat) (o1 : Nat) (lefts : (Nat → Int32)) (tops : (Nat → Int32)) (cwidths : (Nat → Int32)) (cheights : (Nat → Int32)) (originals : (Nat → Int32)) (orients : (Nat → Int32)) (count : Int32) (widths : (Nat → Int32)) (heights : (Nat → Int32)) (groups : (Nat → Int32)) (rows : (Nat → Int32)) (i1 : Int32) (i2 : Int32) (i3 : Int32) (i4 : Int32) (u : Int32) (h : f_X0_colorIn lefts tops cwidths cheights rows i1 i2 i3 i4 = some u) : g_Ct l yX0_colorIn cX0_colorIn 11 (some .int) 1 24 D g [.ref (a o), .ref (a1 o1), .int i1, .int i2, .int i3, .int i4] (k_Catalog g a o lefts tops cwidths cheights originals orients ++ (k_Sheet g a1 o1 count widths heights groups rows)) (k_Catalog g a o lefts tops cwidths cheights originals orients ++ (k_Sheet g a1 o1 count widths heights groups rows)) (some (.int u)) := by
  refine g_start RX0 (by decide) rfl (Nat.le_of_ble_eq_true rfl) rfl ?_
  intro p e s m args below meth c A ls Q hQ hx hb hr hlk hml hown hT hK hA hw hl
  have hl : lv_has ls 11 [(0, .ref (a o)), (1, .ref (a1 o1)), (2, .int i1), (3, .int i2), (4, .int i3), (5, .int i4)] := hl
  unfold f_X0_colorIn at h
  refine lv_aload_n hx hb dX0_colorIn_0 rfl (lv_at hl 0 rfl) ?_
  refine g_get hx hb hT hK hown fl_X0_18 hw 0 rfl (v := .ref (a (o+3))) rfl dX0_colorIn_1 ?_
  refine lv_iload_n hx hb dX0_colorIn_4 rfl (lv_at hl 2 rfl) ?_
  obtain ⟨x1, ex1, hix1, h⟩ := g_rd_some h
  refine g_iald hx hb hK hw 3 (f := cwidths) rfl hix1 ex1 dX0_colorIn_5 ?_
  refine lv_iconst (v := 1) hx hb dX0_colorIn_6 (by decide) ?_
  refine lv_isub hx hb dX0_colorIn_7 ?_
  obtain ⟨x2, ex2, h⟩ := g_bd_nm h
  refine g_topi ex2 ?_
  refine lv_istore (lv' := [(6, .int x2), (0, .ref (a o)), (1, .ref (a1 o1)), (2, .int i1), (3, .int i2), (4, .int i3), (5, .int i4)]) hx hb dX0_colorIn_8 hl (by decide) rfl (fun ls hl => ?_)
  refine lv_aload_n hx hb dX0_colorIn_10 rfl (lv_at hl 1 rfl) ?_
  refine g_get hx hb hT hK hown fl_X0_21 hw 0 rfl (v := .ref (a (o+4))) rfl dX0_colorIn_11 ?_
  refine lv_iload_n hx hb dX0_colorIn_14 rfl (lv_at hl 3 rfl) ?_
  obtain ⟨x3, ex3, hix3, h⟩ := g_rd_some h
  refine g_iald hx hb hK hw 4 (f := cheights) rfl hix3 ex3 dX0_colorIn_15 ?_
  refine lv_iconst (v := 1) hx hb dX0_colorIn_16 (by decide) ?_
  refine lv_isub hx hb dX0_colorIn_17 ?_
  obtain ⟨x4, ex4, h⟩ := g_bd_nm h
  refine g_topi ex4 ?_
  refine lv_istore (lv' := [(7, .int x4), (6, .int x2), (0, .ref (a o)), (1, .ref (a1 o1)), (2, .int i1), (3, .int i2), (4, .int i3), (5, .int i4)]) hx hb dX0_colorIn_18 hl (by decide) rfl (fun ls hl => ?_)
  refine lv_iload_n hx hb dX0_colorIn_20 rfl (lv_at hl 5 rfl) ?_
  refine lv_iconst (v := 4) hx hb dX0_colorIn_21 (by decide) ?_
  refine g_irem hx hb dX0_colorIn_22 (by decide) ?_
  obtain ⟨x5, ex5, h⟩ := g_bd_nm h
  refine g_topi ex5 ?_
  refine lv_istore (lv' := [(8, .int x5), (7, .int x4), (6, .int x2), (0, .ref (a o)), (1, .ref (a1 o1)), (2, .int i1), (3, .int i2), (4, .int i3), (5, .int i4)]) hx hb dX0_colorIn_23 hl (by decide) rfl (fun ls hl => ?_)
  refine lv_iload hx hb dX0_colorIn_25 (lv_at hl 7 rfl) ?_
  refine lv_istore (lv' := [(9, .int i3), (8, .int x5), (7, .int x4), (6, .int x2), (0, .ref (a o)), (1, .ref (a1 o1)), (2, .int i1), (3, .int i2), (4, .int i3), (5, .int i4)]) hx hb dX0_colorIn_27 hl (by decide) rfl (fun ls hl => ?_)
  refine lv_iload hx hb dX0_colorIn_29 (lv_at hl 9 rfl) ?_
  refine lv_istore (lv' := [(10, .int i4), (9, .int i3), (8, .int x5), (7, .int x4), (6, .int x2), (0, .ref (a o)), (1, .ref (a1 o1)), (2, .int i1), (3, .int i2), (4, .int i3), (5, .int i4)]) hx hb dX0_colorIn_31 hl (by decide) rfl (fun ls hl => ?_)
  refine lv_iload hx hb dX0_colorIn_33 (lv_at hl 2 rfl) ?_
  refine lv_iconst (v := 1) hx hb dX0_colorIn_35 (by decide) ?_
  obtain ⟨j93_8, ej93_8, h⟩ := g_jn_nm h
  have hj93_8 : ∀ (x6 : Int32) (x7 : Int32) (x8 : Int32) (H : Heap) (locs : List Loc) (ls : Array Slot), g_Wd D A s.heap H locs (k_Catalog g a o lefts tops cwidths cheights originals orients ++ (k_Sheet g a1 o1 count widths heights groups rows)) → lv_has ls 11 [(0, .ref (a o)), (1, .ref (a1 o1)), (2, .int i1), (3, .int i2), (6, .int x6), (9, .int x7), (10, .int x8)] → j93_8 x6 x7 x8 = some u → W p l e (g_rm 1 24) s m args below meth c H locs 0 0 Q (F0 m 93 ls []) := by
    intro x6 x7 x8 H locs ls hw hl h
    subst ej93_8
    dsimp only at h
    refine lv_iload_n hx hb dX0_colorIn_93 rfl (lv_at hl 3 rfl) ?_
    refine lv_iconst (v := 4) hx hb dX0_colorIn_94 (by decide) ?_
    obtain ⟨j105_10, ej105_10, h⟩ := g_bd_k h
    have hj105_10 : ∀ (x10 : Int32) (H : Heap) (locs : List Loc) (ls : Array Slot), g_Wd D A s.heap H locs (k_Catalog g a o lefts tops cwidths cheights originals orients ++ (k_Sheet g a1 o1 count widths heights groups rows)) → lv_has ls 11 [(0, .ref (a o)), (1, .ref (a1 o1)), (2, .int i1), (9, .int x10), (10, .int x8)] → j105_10 x10 = some u → W p l e (g_rm 1 24) s m args below meth c H locs 0 0 Q (F0 m 105 ls []) := by
      intro x10 H locs ls hw hl h
      subst ej105_10
      dsimp only at h
      refine lv_aload_n hx hb dX0_colorIn_105 rfl (lv_at hl 1 rfl) ?_
      refine lv_iload_n hx hb dX0_colorIn_106 rfl (lv_at hl 2 rfl) ?_
      refine lv_aload_n hx hb dX0_colorIn_107 rfl (lv_at hl 0 rfl) ?_
      refine g_get hx hb hT hK hown fl_X0_9 hw 0 rfl (v := .ref (a (o+1))) rfl dX0_colorIn_108 ?_
      refine lv_iload_n hx hb dX0_colorIn_111 rfl (lv_at hl 2 rfl) ?_
      obtain ⟨x11, ex11, hix11, h⟩ := g_rd_some h
      refine g_iald hx hb hK hw 1 (f := lefts) rfl hix11 ex11 dX0_colorIn_112 ?_
      refine lv_iload hx hb dX0_colorIn_113 (lv_at hl 3 rfl) ?_
      refine lv_iadd hx hb dX0_colorIn_115 ?_
      refine lv_aload_n hx hb dX0_colorIn_116 rfl (lv_at hl 0 rfl) ?_
      refine g_get hx hb hT hK hown fl_X0_15 hw 0 rfl (v := .ref (a (o+2))) rfl dX0_colorIn_117 ?_
      refine lv_iload_n hx hb dX0_colorIn_120 rfl (lv_at hl 2 rfl) ?_
      obtain ⟨x12, ex12, hix12, h⟩ := g_rd_some h
      refine g_iald hx hb hK hw 2 (f := tops) rfl hix12 ex12 dX0_colorIn_121 ?_
      refine lv_iload hx hb dX0_colorIn_122 (lv_at hl 4 rfl) ?_
      refine lv_iadd hx hb dX0_colorIn_124 ?_
      obtain ⟨r13, er13, h⟩ := g_cl_some h
      refine g_callV hx hb hml hown hT hK hA hw mk_X0_72 (c_X6_colorAt l D g a1 o1 count widths heights groups rows i1 (x11 + x10) (x12 + x8) r13 er13) [7, 8, 9, 10, 11] rfl (by decide) 7 rfl rfl rfl hl.1 [] rfl (Nat.le_of_ble_eq_true rfl) ⟨Nat.le_of_ble_eq_true rfl, Nat.le_of_ble_eq_true rfl⟩ ⟨Nat.zero_le _, Nat.zero_le _⟩ dX0_colorIn_125 (ws' := (k_Catalog g a o lefts tops cwidths cheights originals orients ++ (k_Sheet g a1 o1 count widths heights groups rows))) rfl (st2 := [.int r13]) rfl (fun H locs hw => ?_)
      obtain rfl := Option.some.inj h
      exact g_iret hQ hx hb hr hlk hw rfl dX0_colorIn_128
    refine lv_icmp_lt (tgt := 105) hx hb dX0_colorIn_95 (by decide) (fun hc95 => ?_) (fun hc95 => ?_)
    · rw [if_pos hc95] at h
      exact hj105_10 _ _ _ _ hw (lv_sub hl [0, 1, 2, 5, 6] rfl) h
    · rw [if_neg hc95] at h
      refine lv_iload hx hb dX0_colorIn_98 (lv_at hl 4 rfl) ?_
      refine lv_iload hx hb dX0_colorIn_100 (lv_at hl 5 rfl) ?_
      refine lv_isub hx hb dX0_colorIn_102 ?_
      obtain ⟨x14, ex14, h⟩ := g_bd_nm h
      refine g_topi ex14 ?_
      refine lv_istore (lv' := [(9, .int x14), (0, .ref (a o)), (1, .ref (a1 o1)), (2, .int i1), (3, .int i2), (6, .int x6), (10, .int x8)]) hx hb dX0_colorIn_103 hl (by decide) rfl (fun ls hl => ?_)
      exact hj105_10 _ _ _ _ hw (lv_sub hl [1, 2, 3, 0, 6] rfl) h
  refine lv_icmp_ne (tgt := 53) hx hb dX0_colorIn_36 (by decide) (fun hc36 => ?_) (fun hc36 => ?_)
  · rw [if_neg hc36] at h
    refine lv_iload hx hb dX0_colorIn_53 (lv_at hl 2 rfl) ?_
    refine lv_iconst (v := 2) hx hb dX0_colorIn_55 (by decide) ?_
    refine lv_icmp_ne (tgt := 76) hx hb dX0_colorIn_56 (by decide) (fun hc56 => ?_) (fun hc56 => ?_)
    · rw [if_neg hc56] at h
      refine lv_iload hx hb dX0_colorIn_76 (lv_at hl 2 rfl) ?_
      refine lv_iconst (v := 3) hx hb dX0_colorIn_78 (by decide) ?_
      refine lv_icmp_ne (tgt := 93) hx hb dX0_colorIn_79 (by decide) (fun hc79 => ?_) (fun hc79 => ?_)
      · rw [if_neg hc79] at h
        exact hj93_8 _ _ _ _ _ _ hw (lv_sub hl [5, 6, 7, 8, 4, 1, 0] rfl) h
      · rw [if_pos hc79] at h
        refine lv_iload hx hb dX0_colorIn_82 (lv_at hl 4 rfl) ?_
        refine lv_iload hx hb dX0_colorIn_84 (lv_at hl 10 rfl) ?_
        refine lv_isub hx hb dX0_colorIn_86 ?_
        obtain ⟨x18, ex18, h⟩ := g_bd_nm h
        refine g_topi ex18 ?_
        refine lv_istore (lv' := [(9, .int x18), (10, .int i4), (8, .int x5), (7, .int x4), (6, .int x2), (0, .ref (a o)), (1, .ref (a1 o1)), (2, .int i1), (3, .int i2), (4, .int i3), (5, .int i4)]) hx hb dX0_colorIn_87 hl (by decide) rfl (fun ls hl => ?_)
        refine lv_iload hx hb dX0_colorIn_89 (lv_at hl 9 rfl) ?_
        refine lv_istore (lv' := [(10, .int i3), (9, .int x18), (8, .int x5), (7, .int x4), (6, .int x2), (0, .ref (a o)), (1, .ref (a1 o1)), (2, .int i1), (3, .int i2), (4, .int i3), (5, .int i4)]) hx hb dX0_colorIn_91 hl (by decide) rfl (fun ls hl => ?_)
        exact hj93_8 _ _ _ _ _ _ hw (lv_sub hl [5, 6, 7, 8, 4, 1, 0] rfl) h
    · rw [if_pos hc56] at h
      refine lv_iload hx hb dX0_colorIn_59 (lv_at hl 4 rfl) ?_
      refine lv_iload hx hb dX0_colorIn_61 (lv_at hl 9 rfl) ?_
      refine lv_isub hx hb dX0_colorIn_63 ?_
      obtain ⟨x16, ex16, h⟩ := g_bd_nm h
      refine g_topi ex16 ?_
      refine lv_istore (lv' := [(9, .int x16), (10, .int i4), (8, .int x5), (7, .int x4), (6, .int x2), (0, .ref (a o)), (1, .ref (a1 o1)), (2, .int i1), (3, .int i2), (4, .int i3), (5, .int i4)]) hx hb dX0_colorIn_64 hl (by decide) rfl (fun ls hl => ?_)
      refine lv_iload hx hb dX0_colorIn_66 (lv_at hl 3 rfl) ?_
      refine lv_iload hx hb dX0_colorIn_68 (lv_at hl 10 rfl) ?_
      refine lv_isub hx hb dX0_colorIn_70 ?_
      obtain ⟨x17, ex17, h⟩ := g_bd_nm h
      refine g_topi ex17 ?_
      refine lv_istore (lv' := [(10, .int x17), (9, .int x16), (8, .int x5), (7, .int x4), (6, .int x2), (0, .ref (a o)), (1, .ref (a1 o1)), (2, .int i1), (3, .int i2), (4, .int i3), (5, .int i4)]) hx hb dX0_colorIn_71 hl (by decide) rfl (fun ls hl => ?_)
      refine lv_goto (tgt := 93) hx hb dX0_colorIn_73 (by decide) ?_
      exact hj93_8 _ _ _ _ _ _ hw (lv_sub hl [5, 6, 7, 8, 4, 1, 0] rfl) h
  · rw [if_pos hc36] at h
    refine lv_iload hx hb dX0_colorIn_39 (lv_at hl 10 rfl) ?_
    refine lv_istore (lv' := [(9, .int i4), (10, .int i4), (8, .int x5), (7, .int x4), (6, .int x2), (0, .ref (a o)), (1, .ref (a1 o1)), (2, .int i1), (3, .int i2), (4, .int i3), (5, .int i4)]) hx hb dX0_colorIn_41 hl (by decide) rfl (fun ls hl => ?_)
    refine lv_iload hx hb dX0_colorIn_43 (lv_at hl 3 rfl) ?_
    refine lv_iload hx hb dX0_colorIn_45 (lv_at hl 9 rfl) ?_
    refine lv_isub hx hb dX0_colorIn_47 ?_
    obtain ⟨x15, ex15, h⟩ := g_bd_nm h
    refine g_topi ex15 ?_
    refine lv_istore (lv' := [(10, .int x15), (9, .int i4), (8, .int x5), (7, .int x4), (6, .int x2), (0, .ref (a o)), (1, .ref (a1 o1)), (2, .int i1), (3, .int i2), (4, .int i3), (5, .int i4)]) hx hb dX0_colorIn_48 hl (by decide) rfl (fun ls hl => ?_)
    refine lv_goto (tgt := 93) hx hb dX0_colorIn_50 (by decide) ?_
    exact hj93_8 _ _ _ _ _ _ hw (lv_sub hl [5, 6, 7, 8, 4, 1, 0] rfl) h
set_option maxRecDepth 100000 in
set_option maxHeartbeats 4000000 in
theorem c_X0_matches (l : Launch) (D : va_G) (g : Nat → ClassId) (a : Nat → Nat) (o : Nat) (a1 : Nat → Nat) (o1 : Nat) (lefts : (Nat → Int32)) (tops : (Nat → Int32)) (cwidths : (Nat → Int32)) (cheights : (Nat → Int32)) (originals : (Nat → Int32)) (orients : (Nat → Int32)) (count : Int32) (widths : (Nat → Int32)) (heights : (Nat → Int32)) (groups : (Nat → Int32)) (rows : (Nat → Int32)) (i1 : Int32) (i2 : Int32) (i3 : Int32) (u : Int32) (h : f_X0_matches lefts tops cwidths cheights rows i1 i2 i3 = some u) : g_Ct l yX0_matches cX0_matches 10 (some .boolean) 2 54 D g [.ref (a o), .ref (a1 o1), .int i1, .int i2, .int i3] (k_Catalog g a o lefts tops cwidths cheights originals orients ++ (k_Sheet g a1 o1 count widths heights groups rows)) (k_Catalog g a o lefts tops cwidths cheights originals orients ++ (k_Sheet g a1 o1 count widths heights groups rows)) (some (.int u)) := by
  refine g_start RX0 (by decide) rfl (Nat.le_of_ble_eq_true rfl) rfl ?_
  intro p e s m args below meth c A ls Q hQ hx hb hr hlk hml hown hT hK hA hw hl
  have hl : lv_has ls 10 [(0, .ref (a o)), (1, .ref (a1 o1)), (2, .int i1), (3, .int i2), (4, .int i3)] := hl
  unfold f_X0_matches at h
  refine lv_iload hx hb dX0_matches_0 (lv_at hl 4 rfl) ?_
  refine lv_iconst (v := 2) hx hb dX0_matches_2 (by decide) ?_
  refine g_irem hx hb dX0_matches_3 (by decide) ?_
  refine lv_iconst (v := 1) hx hb dX0_matches_4 (by decide) ?_
  obtain ⟨j13_1, ej13_1, h⟩ := g_bd_k h
  have hj13_1 : ∀ (x1 : Int32) (H : Heap) (locs : List Loc) (ls : Array Slot), g_Wd D A s.heap H locs (k_Catalog g a o lefts tops cwidths cheights originals orients ++ (k_Sheet g a1 o1 count widths heights groups rows)) → lv_has ls 10 [(0, .ref (a o)), (1, .ref (a1 o1)), (2, .int i1), (3, .int i2), (4, .int i3)] → j13_1 x1 = some u → W p l e (g_rm 2 54) s m args below meth c H locs 0 0 Q (F0 m 13 ls [.int x1]) := by
    intro x1 H locs ls hw hl h
    subst ej13_1
    dsimp only at h
    refine lv_istore (lv' := [(5, .int x1), (0, .ref (a o)), (1, .ref (a1 o1)), (2, .int i1), (3, .int i2), (4, .int i3)]) hx hb dX0_matches_13 hl (by decide) rfl (fun ls hl => ?_)
    refine lv_iload hx hb dX0_matches_15 (lv_at hl 0 rfl) ?_
    obtain ⟨j35_2, ej35_2, h⟩ := g_jn_nm h
    have hj35_2 : ∀ (x2 : Int32) (H : Heap) (locs : List Loc) (ls : Array Slot), g_Wd D A s.heap H locs (k_Catalog g a o lefts tops cwidths cheights originals orients ++ (k_Sheet g a1 o1 count widths heights groups rows)) → lv_has ls 10 [(0, .ref (a o)), (1, .ref (a1 o1)), (2, .int i1), (3, .int i2), (4, .int i3), (5, .int x1)] → j35_2 x2 = some u → W p l e (g_rm 2 54) s m args below meth c H locs 0 0 Q (F0 m 35 ls [.int x2]) := by
      intro x2 H locs ls hw hl h
      subst ej35_2
      dsimp only at h
      refine lv_istore (lv' := [(6, .int x2), (0, .ref (a o)), (1, .ref (a1 o1)), (2, .int i1), (3, .int i2), (4, .int i3), (5, .int x1)]) hx hb dX0_matches_35 hl (by decide) rfl (fun ls hl => ?_)
      refine lv_iload hx hb dX0_matches_37 (lv_at hl 6 rfl) ?_
      obtain ⟨j57_4, ej57_4, h⟩ := g_jn_nm h
      have hj57_4 : ∀ (x4 : Int32) (H : Heap) (locs : List Loc) (ls : Array Slot), g_Wd D A s.heap H locs (k_Catalog g a o lefts tops cwidths cheights originals orients ++ (k_Sheet g a1 o1 count widths heights groups rows)) → lv_has ls 10 [(0, .ref (a o)), (1, .ref (a1 o1)), (2, .int i1), (3, .int i2), (4, .int i3), (6, .int x2)] → j57_4 x4 = some u → W p l e (g_rm 2 54) s m args below meth c H locs 0 0 Q (F0 m 57 ls [.int x4]) := by
        intro x4 H locs ls hw hl h
        subst ej57_4
        dsimp only at h
        refine lv_istore (lv' := [(7, .int x4), (0, .ref (a o)), (1, .ref (a1 o1)), (2, .int i1), (3, .int i2), (4, .int i3), (6, .int x2)]) hx hb dX0_matches_57 hl (by decide) rfl (fun ls hl => ?_)
        refine lv_aload_n hx hb dX0_matches_59 rfl (lv_at hl 1 rfl) ?_
        refine g_get hx hb hT hK hown fl_X0_18 hw 0 rfl (v := .ref (a (o+3))) rfl dX0_matches_60 ?_
        refine lv_iload_n hx hb dX0_matches_63 rfl (lv_at hl 3 rfl) ?_
        obtain ⟨x6, ex6, hix6, h⟩ := g_rd_some h
        refine g_iald hx hb hK hw 3 (f := cwidths) rfl hix6 ex6 dX0_matches_64 ?_
        refine lv_iload hx hb dX0_matches_65 (lv_at hl 6 rfl) ?_
        refine lv_icmp_ne (tgt := 81) hx hb dX0_matches_67 (by decide) (fun hc67 => ?_) (fun hc67 => ?_)
        · rw [if_neg hc67] at h
          refine lv_iconst (v := 0) hx hb dX0_matches_81 (by decide) ?_
          obtain rfl := Option.some.inj h
          exact g_zret hQ hx hb hr hlk (Or.inl rfl) hw rfl dX0_matches_82
        · rw [if_pos hc67] at h
          refine lv_aload_n hx hb dX0_matches_70 rfl (lv_at hl 1 rfl) ?_
          refine g_get hx hb hT hK hown fl_X0_21 hw 0 rfl (v := .ref (a (o+4))) rfl dX0_matches_71 ?_
          refine lv_iload_n hx hb dX0_matches_74 rfl (lv_at hl 3 rfl) ?_
          obtain ⟨x7, ex7, hix7, h⟩ := g_rd_some h
          refine g_iald hx hb hK hw 4 (f := cheights) rfl hix7 ex7 dX0_matches_75 ?_
          refine lv_iload hx hb dX0_matches_76 (lv_at hl 0 rfl) ?_
          refine lv_icmp_eq (tgt := 83) hx hb dX0_matches_78 (by decide) (fun hc78 => ?_) (fun hc78 => ?_)
          · rw [if_pos hc78] at h
            refine lv_iconst (v := 0) hx hb dX0_matches_83 (by decide) ?_
            refine lv_istore (lv' := [(8, .int (0 : Int32)), (7, .int x4), (0, .ref (a o)), (1, .ref (a1 o1)), (2, .int i1), (3, .int i2), (4, .int i3), (6, .int x2)]) hx hb dX0_matches_84 hl (by decide) rfl (fun ls hl => ?_)
            have hL86 : ∀ (n : Nat) (x8 : Int32) (x9 : Int32) (x10 : Int32) (H : Heap) (locs : List Loc) (ls : Array Slot), g_Wd D A s.heap H locs (k_Catalog g a o lefts tops cwidths cheights originals orients ++ (k_Sheet g a1 o1 count widths heights groups rows)) → lv_has ls 10 [(0, .ref (a o)), (1, .ref (a1 o1)), (2, .int i1), (3, .int i2), (4, .int i3), (6, .int x8), (7, .int x9), (8, .int x10)] → f_X0_matches_L86 lefts tops cwidths cheights rows i1 i2 i3 n x8 x9 x10 = some u → W p l e (g_rm 2 54) s m args below meth c H locs 0 0 Q (F0 m 86 ls []) := by
              intro n
              induction n with
              | zero =>
                intro x8 x9 x10 H locs ls hw hl h
                cases (show none = some u from h)
              | succ n ih86 =>
                intro x8 x9 x10 H locs ls hw hl h
                rw [f_X0_matches_L86] at h
                refine lv_iload hx hb dX0_matches_86 (lv_at hl 7 rfl) ?_
                refine lv_iload hx hb dX0_matches_88 (lv_at hl 6 rfl) ?_
                refine lv_icmp_ge (tgt := 143) hx hb dX0_matches_90 (by decide) (fun hc90 => ?_) (fun hc90 => ?_)
                · rw [if_pos hc90] at h
                  refine lv_iconst (v := 1) hx hb dX0_matches_143 (by decide) ?_
                  obtain rfl := Option.some.inj h
                  exact g_zret hQ hx hb hr hlk (Or.inr rfl) hw rfl dX0_matches_144
                · rw [if_neg hc90] at h
                  refine lv_iconst (v := 0) hx hb dX0_matches_93 (by decide) ?_
                  refine lv_istore (lv' := [(9, .int (0 : Int32)), (0, .ref (a o)), (1, .ref (a1 o1)), (2, .int i1), (3, .int i2), (4, .int i3), (6, .int x8), (7, .int x9), (8, .int x10)]) hx hb dX0_matches_94 hl (by decide) rfl (fun ls hl => ?_)
                  obtain ⟨k137_13, ek137_13, h⟩ := g_jn_nm h
                  have hk137_13 : ∀ (x11 : Int32) (x12 : Int32) (x13 : Int32) (H : Heap) (locs : List Loc) (ls : Array Slot), g_Wd D A s.heap H locs (k_Catalog g a o lefts tops cwidths cheights originals orients ++ (k_Sheet g a1 o1 count widths heights groups rows)) → lv_has ls 10 [(0, .ref (a o)), (1, .ref (a1 o1)), (2, .int i1), (3, .int i2), (4, .int i3), (6, .int x11), (7, .int x12), (8, .int x13)] → k137_13 x11 x12 x13 = some u → W p l e (g_rm 2 54) s m args below meth c H locs 0 0 Q (F0 m 137 ls []) := by
                    intro x11 x12 x13 H locs ls hw hl h
                    subst ek137_13
                    dsimp only at h
                    obtain ⟨x15, ex15, h⟩ := g_bd_nm h
                    refine lv_iinc (v := x15) (lv' := [(8, .int x15), (0, .ref (a o)), (1, .ref (a1 o1)), (2, .int i1), (3, .int i2), (4, .int i3), (6, .int x11), (7, .int x12)]) hx hb dX0_matches_137 hl (k := 7) rfl (by rw [ex15]; rfl) (by decide) rfl (fun ls hl => ?_)
                    refine lv_goto (tgt := 86) hx hb dX0_matches_140 (by decide) ?_
                    exact ih86 _ _ _ _ _ _ hw (lv_sub hl [1, 2, 3, 4, 5, 6, 7, 0] rfl) h
                  have hL96 : ∀ (n : Nat) (x16 : Int32) (x17 : Int32) (x18 : Int32) (x19 : Int32) (H : Heap) (locs : List Loc) (ls : Array Slot), g_Wd D A s.heap H locs (k_Catalog g a o lefts tops cwidths cheights originals orients ++ (k_Sheet g a1 o1 count widths heights groups rows)) → lv_has ls 10 [(0, .ref (a o)), (1, .ref (a1 o1)), (2, .int i1), (3, .int i2), (4, .int i3), (6, .int x16), (7, .int x17), (8, .int x18), (9, .int x19)] → f_X0_matches_L96 lefts tops cwidths cheights rows i1 i2 i3 k137_13 n x16 x17 x18 x19 = some u → W p l e (g_rm 2 54) s m args below meth c H locs 0 0 Q (F0 m 96 ls []) := by
                    intro n
                    induction n with
                    | zero =>
                      intro x16 x17 x18 x19 H locs ls hw hl h
                      cases (show none = some u from h)
                    | succ n ih96 =>
                      intro x16 x17 x18 x19 H locs ls hw hl h
                      rw [f_X0_matches_L96] at h
                      refine lv_iload hx hb dX0_matches_96 (lv_at hl 8 rfl) ?_
                      refine lv_iload hx hb dX0_matches_98 (lv_at hl 5 rfl) ?_
                      refine lv_icmp_ge (tgt := 137) hx hb dX0_matches_100 (by decide) (fun hc100 => ?_) (fun hc100 => ?_)
                      · rw [if_pos hc100] at h
                        exact hk137_13 _ _ _ _ _ _ hw (lv_sub hl [0, 1, 2, 3, 4, 5, 6, 7] rfl) h
                      · rw [if_neg hc100] at h
                        refine lv_aload_n hx hb dX0_matches_103 rfl (lv_at hl 0 rfl) ?_
                        refine lv_aload_n hx hb dX0_matches_104 rfl (lv_at hl 1 rfl) ?_
                        refine lv_iload_n hx hb dX0_matches_105 rfl (lv_at hl 2 rfl) ?_
                        refine lv_iconst (v := 0) hx hb dX0_matches_106 (by decide) ?_
                        refine lv_iload hx hb dX0_matches_107 (lv_at hl 8 rfl) ?_
                        refine lv_iload hx hb dX0_matches_109 (lv_at hl 7 rfl) ?_
                        obtain ⟨r20, er20, h⟩ := g_cl_some h
                        refine g_callV hx hb hml hown hT hK hA hw mk_X0_88 (c_X0_colorIn l D g a o a1 o1 lefts tops cwidths cheights originals orients count widths heights groups rows i1 (0 : Int32) x19 x18 r20 er20) [0, 1, 2, 3, 4, 5, 6, 7, 8, 9, 10, 11] rfl (by decide) 0 rfl rfl rfl hl.1 [] rfl (Nat.le_of_ble_eq_true rfl) ⟨Nat.le_of_ble_eq_true rfl, Nat.le_of_ble_eq_true rfl⟩ ⟨Nat.zero_le _, Nat.zero_le _⟩ dX0_matches_111 (ws' := (k_Catalog g a o lefts tops cwidths cheights originals orients ++ (k_Sheet g a1 o1 count widths heights groups rows))) rfl (st2 := [.int r20]) rfl (fun H locs hw => ?_)
                        refine lv_aload_n hx hb dX0_matches_114 rfl (lv_at hl 0 rfl) ?_
                        refine lv_aload_n hx hb dX0_matches_115 rfl (lv_at hl 1 rfl) ?_
                        refine lv_iload_n hx hb dX0_matches_116 rfl (lv_at hl 3 rfl) ?_
                        refine lv_iload hx hb dX0_matches_117 (lv_at hl 4 rfl) ?_
                        refine lv_iload hx hb dX0_matches_119 (lv_at hl 8 rfl) ?_
                        refine lv_iload hx hb dX0_matches_121 (lv_at hl 7 rfl) ?_
                        obtain ⟨r21, er21, h⟩ := g_cl_some h
                        refine g_callV hx hb hml hown hT hK hA hw mk_X0_88 (c_X0_colorIn l D g a o a1 o1 lefts tops cwidths cheights originals orients count widths heights groups rows i2 i3 x19 x18 r21 er21) [0, 1, 2, 3, 4, 5, 6, 7, 8, 9, 10, 11] rfl (by decide) 0 rfl rfl rfl hl.1 [.int r20] rfl (Nat.le_of_ble_eq_true rfl) ⟨Nat.le_of_ble_eq_true rfl, Nat.le_of_ble_eq_true rfl⟩ ⟨Nat.zero_le _, Nat.zero_le _⟩ dX0_matches_123 (ws' := (k_Catalog g a o lefts tops cwidths cheights originals orients ++ (k_Sheet g a1 o1 count widths heights groups rows))) rfl (st2 := [.int r21, .int r20]) rfl (fun H locs hw => ?_)
                        refine lv_icmp_eq (tgt := 131) hx hb dX0_matches_126 (by decide) (fun hc126 => ?_) (fun hc126 => ?_)
                        · rw [if_pos hc126] at h
                          obtain ⟨x22, ex22, h⟩ := g_bd_nm h
                          refine lv_iinc (v := x22) (lv' := [(9, .int x22), (0, .ref (a o)), (1, .ref (a1 o1)), (2, .int i1), (3, .int i2), (4, .int i3), (6, .int x16), (7, .int x17), (8, .int x18)]) hx hb dX0_matches_131 hl (k := 8) rfl (by rw [ex22]; rfl) (by decide) rfl (fun ls hl => ?_)
                          refine lv_goto (tgt := 96) hx hb dX0_matches_134 (by decide) ?_
                          exact ih96 _ _ _ _ _ _ _ hw (lv_sub hl [1, 2, 3, 4, 5, 6, 7, 8, 0] rfl) h
                        · rw [if_neg hc126] at h
                          refine lv_iconst (v := 0) hx hb dX0_matches_129 (by decide) ?_
                          obtain rfl := Option.some.inj h
                          exact g_zret hQ hx hb hr hlk (Or.inl rfl) hw rfl dX0_matches_130
                  exact hL96 g_fuel _ _ _ _ _ _ _ hw (lv_sub hl [1, 2, 3, 4, 5, 6, 7, 8, 0] rfl) h
            exact hL86 g_fuel _ _ _ _ _ _ hw (lv_sub hl [2, 3, 4, 5, 6, 7, 1, 0] rfl) h
          · rw [if_neg hc78] at h
            refine lv_iconst (v := 0) hx hb dX0_matches_81 (by decide) ?_
            obtain rfl := Option.some.inj h
            exact g_zret hQ hx hb hr hlk (Or.inl rfl) hw rfl dX0_matches_82
      refine lv_if_eq (tgt := 51) hx hb dX0_matches_39 (by decide) (fun hc39 => ?_) (fun hc39 => ?_)
      · rw [if_pos hc39] at h
        refine lv_aload_n hx hb dX0_matches_51 rfl (lv_at hl 1 rfl) ?_
        refine g_get hx hb hT hK hown fl_X0_21 hw 0 rfl (v := .ref (a (o+4))) rfl dX0_matches_52 ?_
        refine lv_iload_n hx hb dX0_matches_55 rfl (lv_at hl 4 rfl) ?_
        obtain ⟨x23, ex23, hix23, h⟩ := g_rd_some h
        refine g_iald hx hb hK hw 4 (f := cheights) rfl hix23 ex23 dX0_matches_56 ?_
        exact hj57_4 _ _ _ _ hw (lv_sub hl [1, 2, 3, 4, 5, 0] rfl) h
      · rw [if_neg hc39] at h
        refine lv_aload_n hx hb dX0_matches_42 rfl (lv_at hl 1 rfl) ?_
        refine g_get hx hb hT hK hown fl_X0_18 hw 0 rfl (v := .ref (a (o+3))) rfl dX0_matches_43 ?_
        refine lv_iload_n hx hb dX0_matches_46 rfl (lv_at hl 4 rfl) ?_
        obtain ⟨x24, ex24, hix24, h⟩ := g_rd_some h
        refine g_iald hx hb hK hw 3 (f := cwidths) rfl hix24 ex24 dX0_matches_47 ?_
        refine lv_goto (tgt := 57) hx hb dX0_matches_48 (by decide) ?_
        exact hj57_4 _ _ _ _ hw (lv_sub hl [1, 2, 3, 4, 5, 0] rfl) h
    refine lv_if_eq (tgt := 29) hx hb dX0_matches_17 (by decide) (fun hc17 => ?_) (fun hc17 => ?_)
    · rw [if_pos hc17] at h
      refine lv_aload_n hx hb dX0_matches_29 rfl (lv_at hl 1 rfl) ?_
      refine g_get hx hb hT hK hown fl_X0_18 hw 0 rfl (v := .ref (a (o+3))) rfl dX0_matches_30 ?_
      refine lv_iload_n hx hb dX0_matches_33 rfl (lv_at hl 4 rfl) ?_
      obtain ⟨x25, ex25, hix25, h⟩ := g_rd_some h
      refine g_iald hx hb hK hw 3 (f := cwidths) rfl hix25 ex25 dX0_matches_34 ?_
      exact hj35_2 _ _ _ _ hw (lv_sub hl [1, 2, 3, 4, 5, 0] rfl) h
    · rw [if_neg hc17] at h
      refine lv_aload_n hx hb dX0_matches_20 rfl (lv_at hl 1 rfl) ?_
      refine g_get hx hb hT hK hown fl_X0_21 hw 0 rfl (v := .ref (a (o+4))) rfl dX0_matches_21 ?_
      refine lv_iload_n hx hb dX0_matches_24 rfl (lv_at hl 4 rfl) ?_
      obtain ⟨x26, ex26, hix26, h⟩ := g_rd_some h
      refine g_iald hx hb hK hw 4 (f := cheights) rfl hix26 ex26 dX0_matches_25 ?_
      refine lv_goto (tgt := 35) hx hb dX0_matches_26 (by decide) ?_
      exact hj35_2 _ _ _ _ hw (lv_sub hl [1, 2, 3, 4, 5, 0] rfl) h
  refine lv_icmp_ne (tgt := 12) hx hb dX0_matches_5 (by decide) (fun hc5 => ?_) (fun hc5 => ?_)
  · rw [if_neg hc5] at h
    refine lv_iconst (v := 0) hx hb dX0_matches_12 (by decide) ?_
    exact hj13_1 _ _ _ _ hw (lv_sub hl [0, 1, 2, 3, 4] rfl) h
  · rw [if_pos hc5] at h
    refine lv_iconst (v := 1) hx hb dX0_matches_8 (by decide) ?_
    refine lv_goto (tgt := 13) hx hb dX0_matches_9 (by decide) ?_
    exact hj13_1 _ _ _ _ hw (lv_sub hl [0, 1, 2, 3, 4] rfl) h
