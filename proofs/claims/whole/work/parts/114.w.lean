set_option maxRecDepth 100000 in
set_option maxHeartbeats 4000000 in
theorem c_X1_offer (l : Launch) (D : va_G) (g : Nat → ClassId) (a : Nat → Nat) (o : Nat) (chFound : Int32) (chPage : Int32) (chCol : Int32) (chRow : Int32) (chTurned : Int32) (chFirst : Int32) (chSecond : Int32) (i1 : Int32) (i2 : Int32) (i3 : Int32) (i4 : Int32) (u : Int32 × Int32 × Int32 × Int32 × Int32 × Int32) (h : f_X1_offer chFound chCol chRow chTurned chFirst chSecond i1 i2 i3 i4 = some u) : b_Ct l yX1_offer cX1_offer 6 none 1 20 D g [.ref (a o), .int i1, .int i2, .int i3, .int i4] [k_Choice g a o chFound chPage chCol chRow chTurned chFirst chSecond] [k_Choice g a o u.1 chPage u.2.1 u.2.2.1 u.2.2.2.1 u.2.2.2.2.1 u.2.2.2.2.2] none := by
  refine b_start RX1 (by decide) rfl (Nat.le_of_ble_eq_true rfl) rfl ?_
  intro p e s m args below meth c A ls Q hQ hx hb hr hlk hml hown hT hK hA hw hl
  have hl : lv_has ls 6 [(0, .ref (a o)), (1, .int i1), (2, .int i2), (3, .int i3), (4, .int i4)] := hl
  unfold f_X1_offer at h
  refine lv_iload_n hx hb dX1_offer_0 rfl (lv_at hl 3 rfl) ?_
  refine lv_aload_n hx hb dX1_offer_1 rfl (lv_at hl 0 rfl) ?_
  refine b_get hx hb hT hK hown fl_X1_17 hw 0 0 rfl rfl (v := .int chFirst) rfl dX1_offer_2 ?_
  obtain ⟨j30_1, ej30_1, h⟩ := g_jn_nm h
  have hj30_1 : ∀ (x1 : Int32) (H : Heap) (locs : List Loc) (ls : Array Slot), b_Wd D A s.heap H locs [k_Choice g a o chFound chPage chCol chRow chTurned chFirst chSecond] → lv_has ls 6 [(0, .ref (a o)), (1, .int i1), (2, .int i2), (3, .int i3), (4, .int i4)] → j30_1 x1 = some u → W p l e (g_rm 1 20) s m args below meth c H locs 0 0 Q (F0 m 30 ls [.int x1]) := by
    intro x1 H locs ls hw hl h
    subst ej30_1
    dsimp only at h
    refine lv_istore (lv' := [(5, .int x1), (0, .ref (a o)), (1, .int i1), (2, .int i2), (3, .int i3), (4, .int i4)]) hx hb dX1_offer_30 hl (by decide) rfl (fun ls hl => ?_)
    refine lv_aload_n hx hb dX1_offer_32 rfl (lv_at hl 1 rfl) ?_
    refine b_get hx hb hT hK hown fl_X1_7 hw 0 0 rfl rfl (v := .int chFound) rfl dX1_offer_33 ?_
    obtain ⟨j45_2, ej45_2, h⟩ := g_jn_nm h
    have hj45_2 : ∀ (H : Heap) (locs : List Loc) (ls : Array Slot), b_Wd D A s.heap H locs [k_Choice g a o chFound chPage chCol chRow chTurned chFirst chSecond] → lv_has ls 6 [(0, .ref (a o)), (1, .int i1), (2, .int i2), (3, .int i3), (4, .int i4)] → j45_2 = some u → W p l e (g_rm 1 20) s m args below meth c H locs 0 0 Q (F0 m 45 ls []) := by
      intro  H locs ls hw hl h
      subst ej45_2
      refine lv_aload_n hx hb dX1_offer_45 rfl (lv_at hl 0 rfl) ?_
      refine lv_iconst (v := 1) hx hb dX1_offer_46 (by decide) ?_
      refine b_putf hx hb hT hK hown fl_X1_7 ft_X1 hw 0 0 rfl rfl rfl rfl rfl (Nat.le_of_ble_eq_true rfl) rfl (wb' := [k_Choice g a o (1 : Int32) chPage chCol chRow chTurned chFirst chSecond]) rfl dX1_offer_47 (fun H locs hw => ?_)
      refine lv_aload_n hx hb dX1_offer_50 rfl (lv_at hl 0 rfl) ?_
      refine lv_iload_n hx hb dX1_offer_51 rfl (lv_at hl 1 rfl) ?_
      refine b_callS hx hb hml hown hT hK hA hw mk_X1_23 (c_X7_leftIn l D g i1) [] [0] rfl (by decide) rfl hl.1 [.ref (a o)] rfl (Nat.le_of_ble_eq_true rfl) ⟨Nat.le_of_ble_eq_true rfl, Nat.le_of_ble_eq_true rfl⟩ ⟨Nat.zero_le _, Nat.zero_le _⟩ dX1_offer_52 (wb' := [k_Choice g a o (1 : Int32) chPage chCol chRow chTurned chFirst chSecond]) rfl (b_e1 rfl b_e0) 1 rfl (by decide) (st2 := [.int (f_X7_leftIn i1), .ref (a o)]) rfl (fun H locs hw => ?_)
      obtain ⟨x4, ex4, h⟩ := g_bd_nm h
      refine g_topi ex4 ?_
      refine b_putf hx hb hT hK hown fl_X1_29 ft_X1 hw 0 0 rfl rfl rfl rfl rfl (Nat.le_of_ble_eq_true rfl) rfl (wb' := [k_Choice g a o (1 : Int32) chPage x4 chRow chTurned chFirst chSecond]) rfl dX1_offer_55 (fun H locs hw => ?_)
      refine lv_aload_n hx hb dX1_offer_58 rfl (lv_at hl 0 rfl) ?_
      refine lv_iload_n hx hb dX1_offer_59 rfl (lv_at hl 1 rfl) ?_
      refine b_callS hx hb hml hown hT hK hA hw mk_X1_32 (c_X7_topIn l D g i1) [] [0] rfl (by decide) rfl hl.1 [.ref (a o)] rfl (Nat.le_of_ble_eq_true rfl) ⟨Nat.le_of_ble_eq_true rfl, Nat.le_of_ble_eq_true rfl⟩ ⟨Nat.zero_le _, Nat.zero_le _⟩ dX1_offer_60 (wb' := [k_Choice g a o (1 : Int32) chPage x4 chRow chTurned chFirst chSecond]) rfl (b_e1 rfl b_e0) 1 rfl (by decide) (st2 := [.int (f_X7_topIn i1), .ref (a o)]) rfl (fun H locs hw => ?_)
      obtain ⟨x5, ex5, h⟩ := g_bd_nm h
      refine g_topi ex5 ?_
      refine b_putf hx hb hT hK hown fl_X1_35 ft_X1 hw 0 0 rfl rfl rfl rfl rfl (Nat.le_of_ble_eq_true rfl) rfl (wb' := [k_Choice g a o (1 : Int32) chPage x4 x5 chTurned chFirst chSecond]) rfl dX1_offer_63 (fun H locs hw => ?_)
      refine lv_aload_n hx hb dX1_offer_66 rfl (lv_at hl 0 rfl) ?_
      refine lv_iload_n hx hb dX1_offer_67 rfl (lv_at hl 2 rfl) ?_
      obtain ⟨z6, h⟩ := g_z_some h
      refine b_putf hx hb hT hK hown fl_X1_38 ft_X1 hw 0 0 rfl rfl rfl (by rcases z6 with h0 | h0 <;> rw [h0] <;> rfl) (by rcases z6 with h0 | h0 <;> rw [h0] <;> rfl) (Nat.le_of_ble_eq_true rfl) rfl (wb' := [k_Choice g a o (1 : Int32) chPage x4 x5 i2 chFirst chSecond]) rfl dX1_offer_68 (fun H locs hw => ?_)
      refine lv_aload_n hx hb dX1_offer_71 rfl (lv_at hl 0 rfl) ?_
      refine lv_iload_n hx hb dX1_offer_72 rfl (lv_at hl 3 rfl) ?_
      refine b_putf hx hb hT hK hown fl_X1_17 ft_X1 hw 0 0 rfl rfl rfl rfl rfl (Nat.le_of_ble_eq_true rfl) rfl (wb' := [k_Choice g a o (1 : Int32) chPage x4 x5 i2 i3 chSecond]) rfl dX1_offer_73 (fun H locs hw => ?_)
      refine lv_aload_n hx hb dX1_offer_76 rfl (lv_at hl 0 rfl) ?_
      refine lv_iload hx hb dX1_offer_77 (lv_at hl 4 rfl) ?_
      refine b_putf hx hb hT hK hown fl_X1_20 ft_X1 hw 0 0 rfl rfl rfl rfl rfl (Nat.le_of_ble_eq_true rfl) rfl (wb' := [k_Choice g a o (1 : Int32) chPage x4 x5 i2 i3 i4]) rfl dX1_offer_79 (fun H locs hw => ?_)
      obtain rfl := Option.some.inj h
      exact b_vret hQ hx hb hr hlk hw rfl dX1_offer_82
    refine lv_if_eq (tgt := 45) hx hb dX1_offer_36 (by decide) (fun hc36 => ?_) (fun hc36 => ?_)
    · rw [if_pos hc36] at h
      exact hj45_2  _ _ _ hw (lv_sub hl [1, 2, 3, 4, 5] rfl) h
    · rw [if_neg hc36] at h
      refine lv_iload hx hb dX1_offer_39 (lv_at hl 0 rfl) ?_
      refine lv_if_ne (tgt := 45) hx hb dX1_offer_41 (by decide) (fun hc41 => ?_) (fun hc41 => ?_)
      · rw [if_neg hc41] at h
        exact hj45_2  _ _ _ hw (lv_sub hl [1, 2, 3, 4, 5] rfl) h
      · rw [if_pos hc41] at h
        obtain rfl := Option.some.inj h
        exact b_vret hQ hx hb hr hlk hw rfl dX1_offer_44
  obtain ⟨j25_6, ej25_6, h⟩ := g_jn_nm h
  have hj25_6 : ∀ (H : Heap) (locs : List Loc) (ls : Array Slot), b_Wd D A s.heap H locs [k_Choice g a o chFound chPage chCol chRow chTurned chFirst chSecond] → lv_has ls 6 [(0, .ref (a o)), (1, .int i1), (2, .int i2), (3, .int i3), (4, .int i4)] → j25_6 = some u → W p l e (g_rm 1 20) s m args below meth c H locs 0 0 Q (F0 m 25 ls []) := by
    intro  H locs ls hw hl h
    subst ej25_6
    refine lv_iconst (v := 1) hx hb dX1_offer_25 (by decide) ?_
    refine lv_goto (tgt := 30) hx hb dX1_offer_26 (by decide) ?_
    exact hj30_1 (1 : Int32) _ _ _ hw (lv_sub hl [0, 1, 2, 3, 4] rfl) h
  refine lv_icmp_lt (tgt := 25) hx hb dX1_offer_5 (by decide) (fun hc5 => ?_) (fun hc5 => ?_)
  · rw [if_pos hc5] at h
    exact hj25_6  _ _ _ hw (lv_sub hl [0, 1, 2, 3, 4] rfl) h
  · rw [if_neg hc5] at h
    refine lv_iload_n hx hb dX1_offer_8 rfl (lv_at hl 3 rfl) ?_
    refine lv_aload_n hx hb dX1_offer_9 rfl (lv_at hl 0 rfl) ?_
    refine b_get hx hb hT hK hown fl_X1_17 hw 0 0 rfl rfl (v := .int chFirst) rfl dX1_offer_10 ?_
    obtain ⟨j29_7, ej29_7, h⟩ := g_jn_nm h
    have hj29_7 : ∀ (H : Heap) (locs : List Loc) (ls : Array Slot), b_Wd D A s.heap H locs [k_Choice g a o chFound chPage chCol chRow chTurned chFirst chSecond] → lv_has ls 6 [(0, .ref (a o)), (1, .int i1), (2, .int i2), (3, .int i3), (4, .int i4)] → j29_7 = some u → W p l e (g_rm 1 20) s m args below meth c H locs 0 0 Q (F0 m 29 ls []) := by
      intro  H locs ls hw hl h
      subst ej29_7
      refine lv_iconst (v := 0) hx hb dX1_offer_29 (by decide) ?_
      exact hj30_1 (0 : Int32) _ _ _ hw (lv_sub hl [0, 1, 2, 3, 4] rfl) h
    refine lv_icmp_ne (tgt := 29) hx hb dX1_offer_13 (by decide) (fun hc13 => ?_) (fun hc13 => ?_)
    · rw [if_neg hc13] at h
      exact hj29_7  _ _ _ hw (lv_sub hl [0, 1, 2, 3, 4] rfl) h
    · rw [if_pos hc13] at h
      refine lv_iload hx hb dX1_offer_16 (lv_at hl 4 rfl) ?_
      refine lv_aload_n hx hb dX1_offer_18 rfl (lv_at hl 0 rfl) ?_
      refine b_get hx hb hT hK hown fl_X1_20 hw 0 0 rfl rfl (v := .int chSecond) rfl dX1_offer_19 ?_
      refine lv_icmp_ge (tgt := 29) hx hb dX1_offer_22 (by decide) (fun hc22 => ?_) (fun hc22 => ?_)
      · rw [if_pos hc22] at h
        exact hj29_7  _ _ _ hw (lv_sub hl [0, 1, 2, 3, 4] rfl) h
      · rw [if_neg hc22] at h
        exact hj25_6  _ _ _ hw (lv_sub hl [0, 1, 2, 3, 4] rfl) h
set_option maxRecDepth 100000 in
set_option maxHeartbeats 4000000 in
theorem c_X6_copyFrom (l : Launch) (D : va_G) (g : Nat → ClassId) (a : Nat → Nat) (o : Nat) (a1 : Nat → Nat) (o1 : Nat) (count : Int32) (widths : (Nat → Int32)) (heights : (Nat → Int32)) (groups : (Nat → Int32)) (rows : (Nat → Int32)) (count1 : Int32) (widths1 : (Nat → Int32)) (heights1 : (Nat → Int32)) (groups1 : (Nat → Int32)) (rows1 : (Nat → Int32)) (u : Int32 × (Nat → Int32) × (Nat → Int32) × (Nat → Int32) × (Nat → Int32)) (h : f_X6_copyFrom widths heights groups rows count1 widths1 heights1 groups1 rows1 = some u) : b_Ct l yX6_copyFrom cX6_copyFrom 2 none 1 18 D g [.ref (a o), .ref (a1 o1)] [k_Sheet g a o count widths heights groups rows, k_Sheet g a1 o1 count1 widths1 heights1 groups1 rows1] [k_Sheet g a o u.1 u.2.1 u.2.2.1 u.2.2.2.1 u.2.2.2.2, k_Sheet g a1 o1 count1 widths1 heights1 groups1 rows1] none := by
  refine b_start RX6 (by decide) rfl (Nat.le_of_ble_eq_true rfl) rfl ?_
  intro p e s m args below meth c A ls Q hQ hx hb hr hlk hml hown hT hK hA hw hl
  have hl : lv_has ls 2 [(0, .ref (a o)), (1, .ref (a1 o1))] := hl
  unfold f_X6_copyFrom at h
  refine lv_aload_n hx hb dX6_copyFrom_0 rfl (lv_at hl 0 rfl) ?_
  refine lv_aload_n hx hb dX6_copyFrom_1 rfl (lv_at hl 1 rfl) ?_
  refine b_get hx hb hT hK hown fl_X6_24 hw 1 0 rfl rfl (v := .int count1) rfl dX6_copyFrom_2 ?_
  refine b_putf hx hb hT hK hown fl_X6_24 ft_X6 hw 0 0 rfl rfl rfl rfl rfl (Nat.le_of_ble_eq_true rfl) rfl (wb' := [k_Sheet g a o count1 widths heights groups rows, k_Sheet g a1 o1 count1 widths1 heights1 groups1 rows1]) rfl dX6_copyFrom_5 (fun H locs hw => ?_)
  refine lv_aload_n hx hb dX6_copyFrom_8 rfl (lv_at hl 1 rfl) ?_
  refine b_get hx hb hT hK hown fl_X6_9 hw 1 0 rfl rfl (v := .ref (a1 (o1+1))) rfl dX6_copyFrom_9 ?_
  refine lv_iconst (v := 0) hx hb dX6_copyFrom_12 (by decide) ?_
  refine lv_aload_n hx hb dX6_copyFrom_13 rfl (lv_at hl 0 rfl) ?_
  refine b_get hx hb hT hK hown fl_X6_9 hw 0 0 rfl rfl (v := .ref (a (o+1))) rfl dX6_copyFrom_14 ?_
  refine lv_iconst (v := 0) hx hb dX6_copyFrom_17 (by decide) ?_
  refine lv_bipush (v := 24) hx hb dX6_copyFrom_18 (by decide) ?_
  obtain ⟨f1, ef1, hof1, h⟩ := g_cpy_some h
  refine b_copyi hx hb hml hl.1 hown hT hK hw ac_X6_42 ac_nat ac_st ac_ini 1 1 0 1 0 (f := widths1) (f1 := widths) rfl rfl rfl rfl rfl rfl hof1 (fun _ _ => rfl) ef1 rfl (wb' := [k_Sheet g a o count1 f1 heights groups rows, k_Sheet g a1 o1 count1 widths1 heights1 groups1 rows1]) rfl (Nat.le_of_ble_eq_true rfl) (Nat.le_of_ble_eq_true rfl) dX6_copyFrom_20 (fun H locs hw => ?_)
  refine lv_aload_n hx hb dX6_copyFrom_23 rfl (lv_at hl 1 rfl) ?_
  refine b_get hx hb hT hK hown fl_X6_15 hw 1 0 rfl rfl (v := .ref (a1 (o1+2))) rfl dX6_copyFrom_24 ?_
  refine lv_iconst (v := 0) hx hb dX6_copyFrom_27 (by decide) ?_
  refine lv_aload_n hx hb dX6_copyFrom_28 rfl (lv_at hl 0 rfl) ?_
  refine b_get hx hb hT hK hown fl_X6_15 hw 0 0 rfl rfl (v := .ref (a (o+2))) rfl dX6_copyFrom_29 ?_
  refine lv_iconst (v := 0) hx hb dX6_copyFrom_32 (by decide) ?_
  refine lv_bipush (v := 24) hx hb dX6_copyFrom_33 (by decide) ?_
  obtain ⟨f2, ef2, hof2, h⟩ := g_cpy_some h
  refine b_copyi hx hb hml hl.1 hown hT hK hw ac_X6_42 ac_nat ac_st ac_ini 1 2 0 2 0 (f := heights1) (f1 := heights) rfl rfl rfl rfl rfl rfl hof2 (fun _ _ => rfl) ef2 rfl (wb' := [k_Sheet g a o count1 f1 f2 groups rows, k_Sheet g a1 o1 count1 widths1 heights1 groups1 rows1]) rfl (Nat.le_of_ble_eq_true rfl) (Nat.le_of_ble_eq_true rfl) dX6_copyFrom_35 (fun H locs hw => ?_)
  refine lv_aload_n hx hb dX6_copyFrom_38 rfl (lv_at hl 1 rfl) ?_
  refine b_get hx hb hT hK hown fl_X6_18 hw 1 0 rfl rfl (v := .ref (a1 (o1+3))) rfl dX6_copyFrom_39 ?_
  refine lv_iconst (v := 0) hx hb dX6_copyFrom_42 (by decide) ?_
  refine lv_aload_n hx hb dX6_copyFrom_43 rfl (lv_at hl 0 rfl) ?_
  refine b_get hx hb hT hK hown fl_X6_18 hw 0 0 rfl rfl (v := .ref (a (o+3))) rfl dX6_copyFrom_44 ?_
  refine lv_iconst (v := 0) hx hb dX6_copyFrom_47 (by decide) ?_
  refine lv_bipush (v := 24) hx hb dX6_copyFrom_48 (by decide) ?_
  obtain ⟨f3, ef3, hof3, h⟩ := g_cpy_some h
  refine b_copyi hx hb hml hl.1 hown hT hK hw ac_X6_42 ac_nat ac_st ac_ini 1 3 0 3 0 (f := groups1) (f1 := groups) rfl rfl rfl rfl rfl rfl hof3 (fun _ _ => rfl) ef3 rfl (wb' := [k_Sheet g a o count1 f1 f2 f3 rows, k_Sheet g a1 o1 count1 widths1 heights1 groups1 rows1]) rfl (Nat.le_of_ble_eq_true rfl) (Nat.le_of_ble_eq_true rfl) dX6_copyFrom_50 (fun H locs hw => ?_)
  refine lv_aload_n hx hb dX6_copyFrom_53 rfl (lv_at hl 1 rfl) ?_
  refine b_get hx hb hT hK hown fl_X6_21 hw 1 0 rfl rfl (v := .ref (a1 (o1+4))) rfl dX6_copyFrom_54 ?_
  refine lv_iconst (v := 0) hx hb dX6_copyFrom_57 (by decide) ?_
  refine lv_aload_n hx hb dX6_copyFrom_58 rfl (lv_at hl 0 rfl) ?_
  refine b_get hx hb hT hK hown fl_X6_21 hw 0 0 rfl rfl (v := .ref (a (o+4))) rfl dX6_copyFrom_59 ?_
  refine lv_iconst (v := 0) hx hb dX6_copyFrom_62 (by decide) ?_
  refine lv_sipush (v := 192) hx hb dX6_copyFrom_63 (by decide) ?_
  obtain ⟨f4, ef4, hof4, h⟩ := g_cpy_some h
  refine b_copyi hx hb hml hl.1 hown hT hK hw ac_X6_42 ac_nat ac_st ac_ini 1 4 0 4 0 (f := rows1) (f1 := rows) rfl rfl rfl rfl rfl rfl hof4 (fun _ _ => rfl) ef4 rfl (wb' := [k_Sheet g a o count1 f1 f2 f3 f4, k_Sheet g a1 o1 count1 widths1 heights1 groups1 rows1]) rfl (Nat.le_of_ble_eq_true rfl) (Nat.le_of_ble_eq_true rfl) dX6_copyFrom_66 (fun H locs hw => ?_)
  obtain rfl := Option.some.inj h
  exact b_vret hQ hx hb hr hlk hw rfl dX6_copyFrom_69
set_option maxRecDepth 100000 in
set_option maxHeartbeats 4000000 in
theorem c_X5_copyFrom (l : Launch) (D : va_G) (g : Nat → ClassId) (a : Nat → Nat) (o : Nat) (a1 : Nat → Nat) (o1 : Nat) (pageWidth : Int32) (pageHeight : Int32) (pageLimit : Int32) (padding : Int32) (border : Int32) (extrusion : Int32) (trimming : Int32) (matching : Int32) (rotation : Int32) (grouped : Int32) (order : Int32) (way : Int32) (pageWidth1 : Int32) (pageHeight1 : Int32) (pageLimit1 : Int32) (padding1 : Int32) (border1 : Int32) (extrusion1 : Int32) (trimming1 : Int32) (matching1 : Int32) (rotation1 : Int32) (grouped1 : Int32) (order1 : Int32) (way1 : Int32) (u : Int32 × Int32 × Int32 × Int32 × Int32 × Int32 × Int32 × Int32 × Int32 × Int32 × Int32 × Int32) (h : f_X5_copyFrom pageWidth1 pageHeight1 pageLimit1 padding1 border1 extrusion1 trimming1 matching1 rotation1 grouped1 order1 way1 = some u) : b_Ct l yX5_copyFrom cX5_copyFrom 2 none 0 0 D g [.ref (a o), .ref (a1 o1)] [k_Settings g a o pageWidth pageHeight pageLimit padding border extrusion trimming matching rotation grouped order way, k_Settings g a1 o1 pageWidth1 pageHeight1 pageLimit1 padding1 border1 extrusion1 trimming1 matching1 rotation1 grouped1 order1 way1] [k_Settings g a o u.1 u.2.1 u.2.2.1 u.2.2.2.1 u.2.2.2.2.1 u.2.2.2.2.2.1 u.2.2.2.2.2.2.1 u.2.2.2.2.2.2.2.1 u.2.2.2.2.2.2.2.2.1 u.2.2.2.2.2.2.2.2.2.1 u.2.2.2.2.2.2.2.2.2.2.1 u.2.2.2.2.2.2.2.2.2.2.2, k_Settings g a1 o1 pageWidth1 pageHeight1 pageLimit1 padding1 border1 extrusion1 trimming1 matching1 rotation1 grouped1 order1 way1] none := by
  refine b_start RX5 (by decide) rfl (Nat.le_of_ble_eq_true rfl) rfl ?_
  intro p e s m args below meth c A ls Q hQ hx hb hr hlk hml hown hT hK hA hw hl
  have hl : lv_has ls 2 [(0, .ref (a o)), (1, .ref (a1 o1))] := hl
  unfold f_X5_copyFrom at h
  refine lv_aload_n hx hb dX5_copyFrom_0 rfl (lv_at hl 0 rfl) ?_
  refine lv_aload_n hx hb dX5_copyFrom_1 rfl (lv_at hl 1 rfl) ?_
  refine b_get hx hb hT hK hown fl_X5_9 hw 1 0 rfl rfl (v := .int pageWidth1) rfl dX5_copyFrom_2 ?_
  refine b_putf hx hb hT hK hown fl_X5_9 ft_X5 hw 0 0 rfl rfl rfl rfl rfl (Nat.le_of_ble_eq_true rfl) rfl (wb' := [k_Settings g a o pageWidth1 pageHeight pageLimit padding border extrusion trimming matching rotation grouped order way, k_Settings g a1 o1 pageWidth1 pageHeight1 pageLimit1 padding1 border1 extrusion1 trimming1 matching1 rotation1 grouped1 order1 way1]) rfl dX5_copyFrom_5 (fun H locs hw => ?_)
  refine lv_aload_n hx hb dX5_copyFrom_8 rfl (lv_at hl 0 rfl) ?_
  refine lv_aload_n hx hb dX5_copyFrom_9 rfl (lv_at hl 1 rfl) ?_
  refine b_get hx hb hT hK hown fl_X5_15 hw 1 0 rfl rfl (v := .int pageHeight1) rfl dX5_copyFrom_10 ?_
  refine b_putf hx hb hT hK hown fl_X5_15 ft_X5 hw 0 0 rfl rfl rfl rfl rfl (Nat.le_of_ble_eq_true rfl) rfl (wb' := [k_Settings g a o pageWidth1 pageHeight1 pageLimit padding border extrusion trimming matching rotation grouped order way, k_Settings g a1 o1 pageWidth1 pageHeight1 pageLimit1 padding1 border1 extrusion1 trimming1 matching1 rotation1 grouped1 order1 way1]) rfl dX5_copyFrom_13 (fun H locs hw => ?_)
  refine lv_aload_n hx hb dX5_copyFrom_16 rfl (lv_at hl 0 rfl) ?_
  refine lv_aload_n hx hb dX5_copyFrom_17 rfl (lv_at hl 1 rfl) ?_
  refine b_get hx hb hT hK hown fl_X5_18 hw 1 0 rfl rfl (v := .int pageLimit1) rfl dX5_copyFrom_18 ?_
  refine b_putf hx hb hT hK hown fl_X5_18 ft_X5 hw 0 0 rfl rfl rfl rfl rfl (Nat.le_of_ble_eq_true rfl) rfl (wb' := [k_Settings g a o pageWidth1 pageHeight1 pageLimit1 padding border extrusion trimming matching rotation grouped order way, k_Settings g a1 o1 pageWidth1 pageHeight1 pageLimit1 padding1 border1 extrusion1 trimming1 matching1 rotation1 grouped1 order1 way1]) rfl dX5_copyFrom_21 (fun H locs hw => ?_)
  refine lv_aload_n hx hb dX5_copyFrom_24 rfl (lv_at hl 0 rfl) ?_
  refine lv_aload_n hx hb dX5_copyFrom_25 rfl (lv_at hl 1 rfl) ?_
  refine b_get hx hb hT hK hown fl_X5_37 hw 1 0 rfl rfl (v := .int padding1) rfl dX5_copyFrom_26 ?_
  refine b_putf hx hb hT hK hown fl_X5_37 ft_X5 hw 0 0 rfl rfl rfl rfl rfl (Nat.le_of_ble_eq_true rfl) rfl (wb' := [k_Settings g a o pageWidth1 pageHeight1 pageLimit1 padding1 border extrusion trimming matching rotation grouped order way, k_Settings g a1 o1 pageWidth1 pageHeight1 pageLimit1 padding1 border1 extrusion1 trimming1 matching1 rotation1 grouped1 order1 way1]) rfl dX5_copyFrom_29 (fun H locs hw => ?_)
  refine lv_aload_n hx hb dX5_copyFrom_32 rfl (lv_at hl 0 rfl) ?_
  refine lv_aload_n hx hb dX5_copyFrom_33 rfl (lv_at hl 1 rfl) ?_
  refine b_get hx hb hT hK hown fl_X5_34 hw 1 0 rfl rfl (v := .int border1) rfl dX5_copyFrom_34 ?_
  refine b_putf hx hb hT hK hown fl_X5_34 ft_X5 hw 0 0 rfl rfl rfl rfl rfl (Nat.le_of_ble_eq_true rfl) rfl (wb' := [k_Settings g a o pageWidth1 pageHeight1 pageLimit1 padding1 border1 extrusion trimming matching rotation grouped order way, k_Settings g a1 o1 pageWidth1 pageHeight1 pageLimit1 padding1 border1 extrusion1 trimming1 matching1 rotation1 grouped1 order1 way1]) rfl dX5_copyFrom_37 (fun H locs hw => ?_)
  refine lv_aload_n hx hb dX5_copyFrom_40 rfl (lv_at hl 0 rfl) ?_
  refine lv_aload_n hx hb dX5_copyFrom_41 rfl (lv_at hl 1 rfl) ?_
  refine b_get hx hb hT hK hown fl_X5_53 hw 1 0 rfl rfl (v := .int extrusion1) rfl dX5_copyFrom_42 ?_
  refine b_putf hx hb hT hK hown fl_X5_53 ft_X5 hw 0 0 rfl rfl rfl rfl rfl (Nat.le_of_ble_eq_true rfl) rfl (wb' := [k_Settings g a o pageWidth1 pageHeight1 pageLimit1 padding1 border1 extrusion1 trimming matching rotation grouped order way, k_Settings g a1 o1 pageWidth1 pageHeight1 pageLimit1 padding1 border1 extrusion1 trimming1 matching1 rotation1 grouped1 order1 way1]) rfl dX5_copyFrom_45 (fun H locs hw => ?_)
  refine lv_aload_n hx hb dX5_copyFrom_48 rfl (lv_at hl 0 rfl) ?_
  refine lv_aload_n hx hb dX5_copyFrom_49 rfl (lv_at hl 1 rfl) ?_
  refine b_get hx hb hT hK hown fl_X5_21 hw 1 0 rfl rfl (v := .int trimming1) rfl dX5_copyFrom_50 ?_
  obtain ⟨z1, h⟩ := g_z_some h
  refine b_putf hx hb hT hK hown fl_X5_21 ft_X5 hw 0 0 rfl rfl rfl (by rcases z1 with h0 | h0 <;> rw [h0] <;> rfl) (by rcases z1 with h0 | h0 <;> rw [h0] <;> rfl) (Nat.le_of_ble_eq_true rfl) rfl (wb' := [k_Settings g a o pageWidth1 pageHeight1 pageLimit1 padding1 border1 extrusion1 trimming1 matching rotation grouped order way, k_Settings g a1 o1 pageWidth1 pageHeight1 pageLimit1 padding1 border1 extrusion1 trimming1 matching1 rotation1 grouped1 order1 way1]) rfl dX5_copyFrom_53 (fun H locs hw => ?_)
  refine lv_aload_n hx hb dX5_copyFrom_56 rfl (lv_at hl 0 rfl) ?_
  refine lv_aload_n hx hb dX5_copyFrom_57 rfl (lv_at hl 1 rfl) ?_
  refine b_get hx hb hT hK hown fl_X5_25 hw 1 0 rfl rfl (v := .int matching1) rfl dX5_copyFrom_58 ?_
  refine b_putf hx hb hT hK hown fl_X5_25 ft_X5 hw 0 0 rfl rfl rfl rfl rfl (Nat.le_of_ble_eq_true rfl) rfl (wb' := [k_Settings g a o pageWidth1 pageHeight1 pageLimit1 padding1 border1 extrusion1 trimming1 matching1 rotation grouped order way, k_Settings g a1 o1 pageWidth1 pageHeight1 pageLimit1 padding1 border1 extrusion1 trimming1 matching1 rotation1 grouped1 order1 way1]) rfl dX5_copyFrom_61 (fun H locs hw => ?_)
  refine lv_aload_n hx hb dX5_copyFrom_64 rfl (lv_at hl 0 rfl) ?_
  refine lv_aload_n hx hb dX5_copyFrom_65 rfl (lv_at hl 1 rfl) ?_
  refine b_get hx hb hT hK hown fl_X5_56 hw 1 0 rfl rfl (v := .int rotation1) rfl dX5_copyFrom_66 ?_
  obtain ⟨z2, h⟩ := g_z_some h
  refine b_putf hx hb hT hK hown fl_X5_56 ft_X5 hw 0 0 rfl rfl rfl (by rcases z2 with h0 | h0 <;> rw [h0] <;> rfl) (by rcases z2 with h0 | h0 <;> rw [h0] <;> rfl) (Nat.le_of_ble_eq_true rfl) rfl (wb' := [k_Settings g a o pageWidth1 pageHeight1 pageLimit1 padding1 border1 extrusion1 trimming1 matching1 rotation1 grouped order way, k_Settings g a1 o1 pageWidth1 pageHeight1 pageLimit1 padding1 border1 extrusion1 trimming1 matching1 rotation1 grouped1 order1 way1]) rfl dX5_copyFrom_69 (fun H locs hw => ?_)
  refine lv_aload_n hx hb dX5_copyFrom_72 rfl (lv_at hl 0 rfl) ?_
  refine lv_aload_n hx hb dX5_copyFrom_73 rfl (lv_at hl 1 rfl) ?_
  refine b_get hx hb hT hK hown fl_X5_59 hw 1 0 rfl rfl (v := .int grouped1) rfl dX5_copyFrom_74 ?_
  obtain ⟨z3, h⟩ := g_z_some h
  refine b_putf hx hb hT hK hown fl_X5_59 ft_X5 hw 0 0 rfl rfl rfl (by rcases z3 with h0 | h0 <;> rw [h0] <;> rfl) (by rcases z3 with h0 | h0 <;> rw [h0] <;> rfl) (Nat.le_of_ble_eq_true rfl) rfl (wb' := [k_Settings g a o pageWidth1 pageHeight1 pageLimit1 padding1 border1 extrusion1 trimming1 matching1 rotation1 grouped1 order way, k_Settings g a1 o1 pageWidth1 pageHeight1 pageLimit1 padding1 border1 extrusion1 trimming1 matching1 rotation1 grouped1 order1 way1]) rfl dX5_copyFrom_77 (fun H locs hw => ?_)
  refine lv_aload_n hx hb dX5_copyFrom_80 rfl (lv_at hl 0 rfl) ?_
  refine lv_aload_n hx hb dX5_copyFrom_81 rfl (lv_at hl 1 rfl) ?_
  refine b_get hx hb hT hK hown fl_X5_28 hw 1 0 rfl rfl (v := .int order1) rfl dX5_copyFrom_82 ?_
  refine b_putf hx hb hT hK hown fl_X5_28 ft_X5 hw 0 0 rfl rfl rfl rfl rfl (Nat.le_of_ble_eq_true rfl) rfl (wb' := [k_Settings g a o pageWidth1 pageHeight1 pageLimit1 padding1 border1 extrusion1 trimming1 matching1 rotation1 grouped1 order1 way, k_Settings g a1 o1 pageWidth1 pageHeight1 pageLimit1 padding1 border1 extrusion1 trimming1 matching1 rotation1 grouped1 order1 way1]) rfl dX5_copyFrom_85 (fun H locs hw => ?_)
  refine lv_aload_n hx hb dX5_copyFrom_88 rfl (lv_at hl 0 rfl) ?_
  refine lv_aload_n hx hb dX5_copyFrom_89 rfl (lv_at hl 1 rfl) ?_
  refine b_get hx hb hT hK hown fl_X5_31 hw 1 0 rfl rfl (v := .int way1) rfl dX5_copyFrom_90 ?_
  refine b_putf hx hb hT hK hown fl_X5_31 ft_X5 hw 0 0 rfl rfl rfl rfl rfl (Nat.le_of_ble_eq_true rfl) rfl (wb' := [k_Settings g a o pageWidth1 pageHeight1 pageLimit1 padding1 border1 extrusion1 trimming1 matching1 rotation1 grouped1 order1 way1, k_Settings g a1 o1 pageWidth1 pageHeight1 pageLimit1 padding1 border1 extrusion1 trimming1 matching1 rotation1 grouped1 order1 way1]) rfl dX5_copyFrom_93 (fun H locs hw => ?_)
  obtain rfl := Option.some.inj h
  exact b_vret hQ hx hb hr hlk hw rfl dX5_copyFrom_96
set_option maxRecDepth 100000 in
set_option maxHeartbeats 4000000 in
theorem c_X4_copyFrom (l : Launch) (D : va_G) (g : Nat → ClassId) (a : Nat → Nat) (o : Nat) (a1 : Nat → Nat) (o1 : Nat) (pageCount : Int32) (pageGroups : (Nat → Int32)) (pages : (Nat → Int32)) (columns : (Nat → Int32)) (rowsP : (Nat → Int32)) (turned : (Nat → Int32)) (pageCount1 : Int32) (pageGroups1 : (Nat → Int32)) (pages1 : (Nat → Int32)) (columns1 : (Nat → Int32)) (rowsP1 : (Nat → Int32)) (turned1 : (Nat → Int32)) (u : Int32 × (Nat → Int32) × (Nat → Int32) × (Nat → Int32) × (Nat → Int32) × (Nat → Int32)) (h : f_X4_copyFrom pageGroups pages columns rowsP turned pageCount1 pageGroups1 pages1 columns1 rowsP1 turned1 = some u) : b_Ct l yX4_copyFrom cX4_copyFrom 2 none 1 18 D g [.ref (a o), .ref (a1 o1)] [k_Places g a o pageCount pageGroups pages columns rowsP turned, k_Places g a1 o1 pageCount1 pageGroups1 pages1 columns1 rowsP1 turned1] [k_Places g a o u.1 u.2.1 u.2.2.1 u.2.2.2.1 u.2.2.2.2.1 u.2.2.2.2.2, k_Places g a1 o1 pageCount1 pageGroups1 pages1 columns1 rowsP1 turned1] none := by
  refine b_start RX4 (by decide) rfl (Nat.le_of_ble_eq_true rfl) rfl ?_
  intro p e s m args below meth c A ls Q hQ hx hb hr hlk hml hown hT hK hA hw hl
  have hl : lv_has ls 2 [(0, .ref (a o)), (1, .ref (a1 o1))] := hl
  unfold f_X4_copyFrom at h
  refine lv_aload_n hx hb dX4_copyFrom_0 rfl (lv_at hl 0 rfl) ?_
  refine lv_aload_n hx hb dX4_copyFrom_1 rfl (lv_at hl 1 rfl) ?_
  refine b_get hx hb hT hK hown fl_X4_34 hw 1 0 rfl rfl (v := .int pageCount1) rfl dX4_copyFrom_2 ?_
  refine b_putf hx hb hT hK hown fl_X4_34 ft_X4 hw 0 0 rfl rfl rfl rfl rfl (Nat.le_of_ble_eq_true rfl) rfl (wb' := [k_Places g a o pageCount1 pageGroups pages columns rowsP turned, k_Places g a1 o1 pageCount1 pageGroups1 pages1 columns1 rowsP1 turned1]) rfl dX4_copyFrom_5 (fun H locs hw => ?_)
  refine lv_aload_n hx hb dX4_copyFrom_8 rfl (lv_at hl 1 rfl) ?_
  refine b_get hx hb hT hK hown fl_X4_9 hw 1 0 rfl rfl (v := .ref (a1 (o1+1))) rfl dX4_copyFrom_9 ?_
  refine lv_iconst (v := 0) hx hb dX4_copyFrom_12 (by decide) ?_
  refine lv_aload_n hx hb dX4_copyFrom_13 rfl (lv_at hl 0 rfl) ?_
  refine b_get hx hb hT hK hown fl_X4_9 hw 0 0 rfl rfl (v := .ref (a (o+1))) rfl dX4_copyFrom_14 ?_
  refine lv_iconst (v := 0) hx hb dX4_copyFrom_17 (by decide) ?_
  refine lv_iconst (v := 4) hx hb dX4_copyFrom_18 (by decide) ?_
  obtain ⟨f1, ef1, hof1, h⟩ := g_cpy_some h
  refine b_copyi hx hb hml hl.1 hown hT hK hw ac_X4_38 ac_nat ac_st ac_ini 1 1 0 1 0 (f := pageGroups1) (f1 := pageGroups) rfl rfl rfl rfl rfl rfl hof1 (fun _ _ => rfl) ef1 rfl (wb' := [k_Places g a o pageCount1 f1 pages columns rowsP turned, k_Places g a1 o1 pageCount1 pageGroups1 pages1 columns1 rowsP1 turned1]) rfl (Nat.le_of_ble_eq_true rfl) (Nat.le_of_ble_eq_true rfl) dX4_copyFrom_19 (fun H locs hw => ?_)
  refine lv_aload_n hx hb dX4_copyFrom_22 rfl (lv_at hl 1 rfl) ?_
  refine b_get hx hb hT hK hown fl_X4_15 hw 1 0 rfl rfl (v := .ref (a1 (o1+2))) rfl dX4_copyFrom_23 ?_
  refine lv_iconst (v := 0) hx hb dX4_copyFrom_26 (by decide) ?_
  refine lv_aload_n hx hb dX4_copyFrom_27 rfl (lv_at hl 0 rfl) ?_
  refine b_get hx hb hT hK hown fl_X4_15 hw 0 0 rfl rfl (v := .ref (a (o+2))) rfl dX4_copyFrom_28 ?_
  refine lv_iconst (v := 0) hx hb dX4_copyFrom_31 (by decide) ?_
  refine lv_bipush (v := 24) hx hb dX4_copyFrom_32 (by decide) ?_
  obtain ⟨f2, ef2, hof2, h⟩ := g_cpy_some h
  refine b_copyi hx hb hml hl.1 hown hT hK hw ac_X4_38 ac_nat ac_st ac_ini 1 2 0 2 0 (f := pages1) (f1 := pages) rfl rfl rfl rfl rfl rfl hof2 (fun _ _ => rfl) ef2 rfl (wb' := [k_Places g a o pageCount1 f1 f2 columns rowsP turned, k_Places g a1 o1 pageCount1 pageGroups1 pages1 columns1 rowsP1 turned1]) rfl (Nat.le_of_ble_eq_true rfl) (Nat.le_of_ble_eq_true rfl) dX4_copyFrom_34 (fun H locs hw => ?_)
  refine lv_aload_n hx hb dX4_copyFrom_37 rfl (lv_at hl 1 rfl) ?_
  refine b_get hx hb hT hK hown fl_X4_18 hw 1 0 rfl rfl (v := .ref (a1 (o1+3))) rfl dX4_copyFrom_38 ?_
  refine lv_iconst (v := 0) hx hb dX4_copyFrom_41 (by decide) ?_
  refine lv_aload_n hx hb dX4_copyFrom_42 rfl (lv_at hl 0 rfl) ?_
  refine b_get hx hb hT hK hown fl_X4_18 hw 0 0 rfl rfl (v := .ref (a (o+3))) rfl dX4_copyFrom_43 ?_
  refine lv_iconst (v := 0) hx hb dX4_copyFrom_46 (by decide) ?_
  refine lv_bipush (v := 24) hx hb dX4_copyFrom_47 (by decide) ?_
  obtain ⟨f3, ef3, hof3, h⟩ := g_cpy_some h
  refine b_copyi hx hb hml hl.1 hown hT hK hw ac_X4_38 ac_nat ac_st ac_ini 1 3 0 3 0 (f := columns1) (f1 := columns) rfl rfl rfl rfl rfl rfl hof3 (fun _ _ => rfl) ef3 rfl (wb' := [k_Places g a o pageCount1 f1 f2 f3 rowsP turned, k_Places g a1 o1 pageCount1 pageGroups1 pages1 columns1 rowsP1 turned1]) rfl (Nat.le_of_ble_eq_true rfl) (Nat.le_of_ble_eq_true rfl) dX4_copyFrom_49 (fun H locs hw => ?_)
  refine lv_aload_n hx hb dX4_copyFrom_52 rfl (lv_at hl 1 rfl) ?_
  refine b_get hx hb hT hK hown fl_X4_21 hw 1 0 rfl rfl (v := .ref (a1 (o1+4))) rfl dX4_copyFrom_53 ?_
  refine lv_iconst (v := 0) hx hb dX4_copyFrom_56 (by decide) ?_
  refine lv_aload_n hx hb dX4_copyFrom_57 rfl (lv_at hl 0 rfl) ?_
  refine b_get hx hb hT hK hown fl_X4_21 hw 0 0 rfl rfl (v := .ref (a (o+4))) rfl dX4_copyFrom_58 ?_
  refine lv_iconst (v := 0) hx hb dX4_copyFrom_61 (by decide) ?_
  refine lv_bipush (v := 24) hx hb dX4_copyFrom_62 (by decide) ?_
  obtain ⟨f4, ef4, hof4, h⟩ := g_cpy_some h
  refine b_copyi hx hb hml hl.1 hown hT hK hw ac_X4_38 ac_nat ac_st ac_ini 1 4 0 4 0 (f := rowsP1) (f1 := rowsP) rfl rfl rfl rfl rfl rfl hof4 (fun _ _ => rfl) ef4 rfl (wb' := [k_Places g a o pageCount1 f1 f2 f3 f4 turned, k_Places g a1 o1 pageCount1 pageGroups1 pages1 columns1 rowsP1 turned1]) rfl (Nat.le_of_ble_eq_true rfl) (Nat.le_of_ble_eq_true rfl) dX4_copyFrom_64 (fun H locs hw => ?_)
  refine lv_aload_n hx hb dX4_copyFrom_67 rfl (lv_at hl 1 rfl) ?_
  refine b_get hx hb hT hK hown fl_X4_24 hw 1 0 rfl rfl (v := .ref (a1 (o1+5))) rfl dX4_copyFrom_68 ?_
  refine lv_iconst (v := 0) hx hb dX4_copyFrom_71 (by decide) ?_
  refine lv_aload_n hx hb dX4_copyFrom_72 rfl (lv_at hl 0 rfl) ?_
  refine b_get hx hb hT hK hown fl_X4_24 hw 0 0 rfl rfl (v := .ref (a (o+5))) rfl dX4_copyFrom_73 ?_
  refine lv_iconst (v := 0) hx hb dX4_copyFrom_76 (by decide) ?_
  refine lv_bipush (v := 24) hx hb dX4_copyFrom_77 (by decide) ?_
  obtain ⟨f5, ef5, hof5, hff5, h⟩ := g_cpyZ_some h
  refine b_copyi hx hb hml hl.1 hown hT hK hw ac_X4_38 ac_nat ac_st ac_ini 1 5 0 5 1 (f := turned1) (f1 := turned) rfl rfl rfl rfl rfl rfl hof5 hff5 ef5 rfl (wb' := [k_Places g a o pageCount1 f1 f2 f3 f4 f5, k_Places g a1 o1 pageCount1 pageGroups1 pages1 columns1 rowsP1 turned1]) rfl (Nat.le_of_ble_eq_true rfl) (Nat.le_of_ble_eq_true rfl) dX4_copyFrom_79 (fun H locs hw => ?_)
  obtain rfl := Option.some.inj h
  exact b_vret hQ hx hb hr hlk hw rfl dX4_copyFrom_82
set_option maxRecDepth 100000 in
set_option maxHeartbeats 4000000 in
theorem c_X8_copyFrom (l : Launch) (D : va_G) (g : Nat → ClassId) (a : Nat → Nat) (o : Nat) (a1 : Nat → Nat) (o1 : Nat) (S : Nat → Nat → Int32) (S2 : Nat → Nat → Int32) (u : (Nat → Nat → Int32)) (h : f_X8_copyFrom S S2 = some u) : b_Ct l yX8_copyFrom cX8_copyFrom 2 none 2 39 D g [.ref (a o), .ref (a1 o1)] [k_StO g a o, k_Sheet g a (o+1) (S 0 0) (S 1) (S 2) (S 3) (S 4), k_Settings g a (o+6) (S 5 0) (S 5 1) (S 5 2) (S 5 3) (S 5 4) (S 5 5) (S 5 6) (S 5 7) (S 5 8) (S 5 9) (S 5 10) (S 5 11), k_Places g a (o+7) (S 6 0) (S 7) (S 8) (S 9) (S 10) (S 11), k_StO g a1 o1, k_Sheet g a1 (o1+1) (S2 0 0) (S2 1) (S2 2) (S2 3) (S2 4), k_Settings g a1 (o1+6) (S2 5 0) (S2 5 1) (S2 5 2) (S2 5 3) (S2 5 4) (S2 5 5) (S2 5 6) (S2 5 7) (S2 5 8) (S2 5 9) (S2 5 10) (S2 5 11), k_Places g a1 (o1+7) (S2 6 0) (S2 7) (S2 8) (S2 9) (S2 10) (S2 11)] [k_StO g a o, k_Sheet g a (o+1) (u 0 0) (u 1) (u 2) (u 3) (u 4), k_Settings g a (o+6) (u 5 0) (u 5 1) (u 5 2) (u 5 3) (u 5 4) (u 5 5) (u 5 6) (u 5 7) (u 5 8) (u 5 9) (u 5 10) (u 5 11), k_Places g a (o+7) (u 6 0) (u 7) (u 8) (u 9) (u 10) (u 11), k_StO g a1 o1, k_Sheet g a1 (o1+1) (S2 0 0) (S2 1) (S2 2) (S2 3) (S2 4), k_Settings g a1 (o1+6) (S2 5 0) (S2 5 1) (S2 5 2) (S2 5 3) (S2 5 4) (S2 5 5) (S2 5 6) (S2 5 7) (S2 5 8) (S2 5 9) (S2 5 10) (S2 5 11), k_Places g a1 (o1+7) (S2 6 0) (S2 7) (S2 8) (S2 9) (S2 10) (S2 11)] none := by
  refine b_start RX8 (by decide) rfl (Nat.le_of_ble_eq_true rfl) rfl ?_
  intro p e s m args below meth c A ls Q hQ hx hb hr hlk hml hown hT hK hA hw hl
  have hl : lv_has ls 2 [(0, .ref (a o)), (1, .ref (a1 o1))] := hl
  unfold f_X8_copyFrom at h
  refine lv_aload_n hx hb dX8_copyFrom_0 rfl (lv_at hl 0 rfl) ?_
  refine b_get hx hb hT hK hown fl_X8_10 hw 0 0 rfl rfl (v := .ref (a (o+1))) rfl dX8_copyFrom_1 ?_
  refine lv_aload_n hx hb dX8_copyFrom_4 rfl (lv_at hl 1 rfl) ?_
  refine b_get hx hb hT hK hown fl_X8_10 hw 4 0 rfl rfl (v := .ref (a1 (o1+1))) rfl dX8_copyFrom_5 ?_
  obtain ⟨r1, er1, h⟩ := g_cl_some h
  refine b_callV hx hb hml hown hT hK hA hw mk_X8_30 (c_X6_copyFrom l D g a (o+1) a1 (o1+1) (S 0 0) (S 1) (S 2) (S 3) (S 4) (S2 0 0) (S2 1) (S2 2) (S2 3) (S2 4) r1 er1) [1, 5] [0, 2, 3, 4, 6, 7] rfl (by decide) 1 0 rfl rfl rfl rfl hl.1 [] rfl (Nat.le_of_ble_eq_true rfl) ⟨Nat.le_of_ble_eq_true rfl, Nat.le_of_ble_eq_true rfl⟩ ⟨Nat.zero_le _, Nat.zero_le _⟩ dX8_copyFrom_8 (wb' := [k_StO g a o, k_Sheet g a (o+1) r1.1 r1.2.1 r1.2.2.1 r1.2.2.2.1 r1.2.2.2.2, k_Settings g a (o+6) (S 5 0) (S 5 1) (S 5 2) (S 5 3) (S 5 4) (S 5 5) (S 5 6) (S 5 7) (S 5 8) (S 5 9) (S 5 10) (S 5 11), k_Places g a (o+7) (S 6 0) (S 7) (S 8) (S 9) (S 10) (S 11), k_StO g a1 o1, k_Sheet g a1 (o1+1) (S2 0 0) (S2 1) (S2 2) (S2 3) (S2 4), k_Settings g a1 (o1+6) (S2 5 0) (S2 5 1) (S2 5 2) (S2 5 3) (S2 5 4) (S2 5 5) (S2 5 6) (S2 5 7) (S2 5 8) (S2 5 9) (S2 5 10) (S2 5 11), k_Places g a1 (o1+7) (S2 6 0) (S2 7) (S2 8) (S2 9) (S2 10) (S2 11)]) rfl (b_e1 rfl (b_e1 rfl (b_e1 rfl (b_e1 rfl (b_e1 rfl (b_e1 rfl b_e0)))))) 8 rfl (by decide) (st2 := []) rfl (fun H locs hw => ?_)
  refine lv_aload_n hx hb dX8_copyFrom_11 rfl (lv_at hl 0 rfl) ?_
  refine b_get hx hb hT hK hown fl_X8_19 hw 0 0 rfl rfl (v := .ref (a (o+6))) rfl dX8_copyFrom_12 ?_
  refine lv_aload_n hx hb dX8_copyFrom_15 rfl (lv_at hl 1 rfl) ?_
  refine b_get hx hb hT hK hown fl_X8_19 hw 4 0 rfl rfl (v := .ref (a1 (o1+6))) rfl dX8_copyFrom_16 ?_
  obtain ⟨r2, er2, h⟩ := g_cl_some h
  refine b_callV hx hb hml hown hT hK hA hw mk_X8_34 (c_X5_copyFrom l D g a (o+6) a1 (o1+6) (S 5 0) (S 5 1) (S 5 2) (S 5 3) (S 5 4) (S 5 5) (S 5 6) (S 5 7) (S 5 8) (S 5 9) (S 5 10) (S 5 11) (S2 5 0) (S2 5 1) (S2 5 2) (S2 5 3) (S2 5 4) (S2 5 5) (S2 5 6) (S2 5 7) (S2 5 8) (S2 5 9) (S2 5 10) (S2 5 11) r2 er2) [2, 6] [0, 1, 3, 4, 5, 7] rfl (by decide) 2 0 rfl rfl rfl rfl hl.1 [] rfl (Nat.le_of_ble_eq_true rfl) ⟨Nat.le_of_ble_eq_true rfl, Nat.le_of_ble_eq_true rfl⟩ ⟨Nat.zero_le _, Nat.zero_le _⟩ dX8_copyFrom_19 (wb' := [k_StO g a o, k_Sheet g a (o+1) r1.1 r1.2.1 r1.2.2.1 r1.2.2.2.1 r1.2.2.2.2, k_Settings g a (o+6) r2.1 r2.2.1 r2.2.2.1 r2.2.2.2.1 r2.2.2.2.2.1 r2.2.2.2.2.2.1 r2.2.2.2.2.2.2.1 r2.2.2.2.2.2.2.2.1 r2.2.2.2.2.2.2.2.2.1 r2.2.2.2.2.2.2.2.2.2.1 r2.2.2.2.2.2.2.2.2.2.2.1 r2.2.2.2.2.2.2.2.2.2.2.2, k_Places g a (o+7) (S 6 0) (S 7) (S 8) (S 9) (S 10) (S 11), k_StO g a1 o1, k_Sheet g a1 (o1+1) (S2 0 0) (S2 1) (S2 2) (S2 3) (S2 4), k_Settings g a1 (o1+6) (S2 5 0) (S2 5 1) (S2 5 2) (S2 5 3) (S2 5 4) (S2 5 5) (S2 5 6) (S2 5 7) (S2 5 8) (S2 5 9) (S2 5 10) (S2 5 11), k_Places g a1 (o1+7) (S2 6 0) (S2 7) (S2 8) (S2 9) (S2 10) (S2 11)]) rfl (b_e1 rfl (b_e1 rfl (b_e1 rfl (b_e1 rfl (b_e1 rfl (b_e1 rfl b_e0)))))) 8 rfl (by decide) (st2 := []) rfl (fun H locs hw => ?_)
  refine lv_aload_n hx hb dX8_copyFrom_22 rfl (lv_at hl 0 rfl) ?_
  refine b_get hx hb hT hK hown fl_X8_26 hw 0 0 rfl rfl (v := .ref (a (o+7))) rfl dX8_copyFrom_23 ?_
  refine lv_aload_n hx hb dX8_copyFrom_26 rfl (lv_at hl 1 rfl) ?_
  refine b_get hx hb hT hK hown fl_X8_26 hw 4 0 rfl rfl (v := .ref (a1 (o1+7))) rfl dX8_copyFrom_27 ?_
  obtain ⟨r3, er3, h⟩ := g_cl_some h
  refine b_callV hx hb hml hown hT hK hA hw mk_X8_37 (c_X4_copyFrom l D g a (o+7) a1 (o1+7) (S 6 0) (S 7) (S 8) (S 9) (S 10) (S 11) (S2 6 0) (S2 7) (S2 8) (S2 9) (S2 10) (S2 11) r3 er3) [3, 7] [0, 1, 2, 4, 5, 6] rfl (by decide) 3 0 rfl rfl rfl rfl hl.1 [] rfl (Nat.le_of_ble_eq_true rfl) ⟨Nat.le_of_ble_eq_true rfl, Nat.le_of_ble_eq_true rfl⟩ ⟨Nat.zero_le _, Nat.zero_le _⟩ dX8_copyFrom_30 (wb' := [k_StO g a o, k_Sheet g a (o+1) r1.1 r1.2.1 r1.2.2.1 r1.2.2.2.1 r1.2.2.2.2, k_Settings g a (o+6) r2.1 r2.2.1 r2.2.2.1 r2.2.2.2.1 r2.2.2.2.2.1 r2.2.2.2.2.2.1 r2.2.2.2.2.2.2.1 r2.2.2.2.2.2.2.2.1 r2.2.2.2.2.2.2.2.2.1 r2.2.2.2.2.2.2.2.2.2.1 r2.2.2.2.2.2.2.2.2.2.2.1 r2.2.2.2.2.2.2.2.2.2.2.2, k_Places g a (o+7) r3.1 r3.2.1 r3.2.2.1 r3.2.2.2.1 r3.2.2.2.2.1 r3.2.2.2.2.2, k_StO g a1 o1, k_Sheet g a1 (o1+1) (S2 0 0) (S2 1) (S2 2) (S2 3) (S2 4), k_Settings g a1 (o1+6) (S2 5 0) (S2 5 1) (S2 5 2) (S2 5 3) (S2 5 4) (S2 5 5) (S2 5 6) (S2 5 7) (S2 5 8) (S2 5 9) (S2 5 10) (S2 5 11), k_Places g a1 (o1+7) (S2 6 0) (S2 7) (S2 8) (S2 9) (S2 10) (S2 11)]) rfl (b_e1 rfl (b_e1 rfl (b_e1 rfl (b_e1 rfl (b_e1 rfl (b_e1 rfl b_e0)))))) 8 rfl (by decide) (st2 := []) rfl (fun H locs hw => ?_)
  obtain rfl := Option.some.inj h
  exact b_vret hQ hx hb hr hlk hw rfl dX8_copyFrom_33
