set_option maxRecDepth 100000 in
set_option maxHeartbeats 4000000 in
theorem c_J7_fill_fda19 (l : Launch) (D : va_G) (g : Nat → ClassId) (a1 : Nat) (n_p0 : Nat) (arr : (Nat → Int32)) (i1 : Int32) (i2 : Int32) (i3 : Int32) (u : (Nat → Int32)) (h : f_J7_fill_fda19 n_p0 arr i1 i2 i3 = some u) : b_Ct l yJ7_fill_fda19 cJ7_fill_fda19 5 none 1 22 D g [.ref a1, .int i1, .int i2, .int i3] [k_ArrI g a1 n_p0 arr] [k_ArrI g a1 n_p0 u] none := by
  refine b_start RJ7 (by decide) rfl (Nat.le_of_ble_eq_true rfl) rfl ?_
  intro p e s m args below meth c A ls Q hQ hx hb hr hlk hml hown hT hK hA hw hl
  have hl : lv_has ls 5 [(0, .ref a1), (1, .int i1), (2, .int i2), (3, .int i3)] := hl
  unfold f_J7_fill_fda19 at h
  refine lv_aload_n hx hb dJ7_fill_fda19_0 rfl (lv_at hl 0 rfl) ?_
  refine b_alen hx hb hK hw 0 0 0 rfl rfl rfl (v := (Int32.ofNat n_p0)) rfl dJ7_fill_fda19_1 ?_
  refine lv_iload_n hx hb dJ7_fill_fda19_2 rfl (lv_at hl 1 rfl) ?_
  refine lv_iload_n hx hb dJ7_fill_fda19_3 rfl (lv_at hl 2 rfl) ?_
  obtain ⟨r1, er1, h⟩ := g_cl_some h
  refine b_callS hx hb hml hown hT hK hA hw mk_J7_13 (c_J7_rangeCheck_23922 l D g (Int32.ofNat n_p0) i1 i2 r1 er1) [] [0] rfl (by decide) rfl hl.1 [] rfl (Nat.le_of_ble_eq_true rfl) ⟨Nat.le_of_ble_eq_true rfl, Nat.le_of_ble_eq_true rfl⟩ ⟨Nat.zero_le _, Nat.zero_le _⟩ dJ7_fill_fda19_4 (wb' := [k_ArrI g a1 n_p0 arr]) rfl (b_e1 rfl b_e0) 1 rfl (by decide) (st2 := []) rfl (fun H locs hw => ?_)
  refine lv_iload_n hx hb dJ7_fill_fda19_7 rfl (lv_at hl 1 rfl) ?_
  refine lv_istore (lv' := [(4, .int i1), (0, .ref a1), (1, .int i1), (2, .int i2), (3, .int i3)]) hx hb dJ7_fill_fda19_8 hl (by decide) rfl (fun ls hl => ?_)
  have hL10 : ∀ (n : Nat) (x2 : Int32) (f3 : Nat → Int32) (H : Heap) (locs : List Loc) (ls : Array Slot), b_Wd D A s.heap H locs [k_ArrI g a1 n_p0 f3] → lv_has ls 5 [(0, .ref a1), (2, .int i2), (3, .int i3), (4, .int x2)] → f_J7_fill_fda19_L10 n_p0 i2 i3 n x2 f3 = some u → W p l e (g_rm 1 22) s m args below meth c H locs 0 0 Q (F0 m 10 ls []) := by
    intro n
    induction n with
    | zero =>
      intro x2 f3 H locs ls hw hl h
      cases (show none = some u from h)
    | succ n ih10 =>
      intro x2 f3 H locs ls hw hl h
      rw [f_J7_fill_fda19_L10] at h
      refine lv_iload hx hb dJ7_fill_fda19_10 (lv_at hl 3 rfl) ?_
      refine lv_iload_n hx hb dJ7_fill_fda19_12 rfl (lv_at hl 1 rfl) ?_
      refine lv_icmp_ge (tgt := 27) hx hb dJ7_fill_fda19_13 (by decide) (fun hc13 => ?_) (fun hc13 => ?_)
      · rw [if_pos hc13] at h
        obtain rfl := Option.some.inj h
        exact b_vret hQ hx hb hr hlk hw rfl dJ7_fill_fda19_27
      · rw [if_neg hc13] at h
        refine lv_aload_n hx hb dJ7_fill_fda19_16 rfl (lv_at hl 0 rfl) ?_
        refine lv_iload hx hb dJ7_fill_fda19_17 (lv_at hl 3 rfl) ?_
        refine lv_iload_n hx hb dJ7_fill_fda19_19 rfl (lv_at hl 2 rfl) ?_
        obtain ⟨f4, ef4, hif4, h⟩ := g_wr_some h
        refine b_iast hx hb hK hw 0 0 rfl (f := f3) rfl hif4 ef4 rfl (wb' := [k_ArrI g a1 n_p0 f4]) rfl dJ7_fill_fda19_20 (fun H locs hw => ?_)
        obtain ⟨x5, ex5, h⟩ := g_bd_nm h
        refine lv_iinc (v := x5) (lv' := [(4, .int x5), (0, .ref a1), (2, .int i2), (3, .int i3)]) hx hb dJ7_fill_fda19_21 hl (k := 3) rfl (by rw [ex5]; rfl) (by decide) rfl (fun ls hl => ?_)
        refine lv_goto (tgt := 10) hx hb dJ7_fill_fda19_24 (by decide) ?_
        exact ih10 x5 f4 _ _ _ hw (lv_sub hl [1, 2, 3, 0] rfl) h
  exact hL10 g_fuel i1 arr _ _ _ hw (lv_sub hl [1, 3, 4, 0] rfl) h
set_option maxRecDepth 100000 in
set_option maxHeartbeats 4000000 in
theorem c_X6_add (l : Launch) (D : va_G) (g : Nat → ClassId) (a : Nat → Nat) (o : Nat) (count : Int32) (widths : (Nat → Int32)) (heights : (Nat → Int32)) (groups : (Nat → Int32)) (rows : (Nat → Int32)) (i1 : Int32) (i2 : Int32) (u : Int32 × Int32 × (Nat → Int32) × (Nat → Int32) × (Nat → Int32) × (Nat → Int32)) (h : f_X6_add count widths heights groups rows i1 i2 = some u) : b_Ct l yX6_add cX6_add 5 (some .int) 2 46 D g [.ref (a o), .int i1, .int i2] [k_Sheet g a o count widths heights groups rows] [k_Sheet g a o u.2.1 u.2.2.1 u.2.2.2.1 u.2.2.2.2.1 u.2.2.2.2.2] (some (.int u.1)) := by
  refine b_start RX6 (by decide) rfl (Nat.le_of_ble_eq_true rfl) rfl ?_
  intro p e s m args below meth c A ls Q hQ hx hb hr hlk hml hown hT hK hA hw hl
  have hl : lv_has ls 5 [(0, .ref (a o)), (1, .int i1), (2, .int i2)] := hl
  unfold f_X6_add at h
  refine lv_aload_n hx hb dX6_add_0 rfl (lv_at hl 0 rfl) ?_
  refine b_get hx hb hT hK hown fl_X6_24 hw 0 0 rfl rfl (v := .int count) rfl dX6_add_1 ?_
  refine lv_bipush (v := 24) hx hb dX6_add_4 (by decide) ?_
  refine lv_icmp_lt (tgt := 12) hx hb dX6_add_6 (by decide) (fun hc6 => ?_) (fun hc6 => ?_)
  · rw [if_pos hc6] at h
    refine lv_aload_n hx hb dX6_add_12 rfl (lv_at hl 0 rfl) ?_
    refine b_get hx hb hT hK hown fl_X6_24 hw 0 0 rfl rfl (v := .int count) rfl dX6_add_13 ?_
    refine lv_istore_n (lv' := [(3, .int count), (0, .ref (a o)), (1, .int i1), (2, .int i2)]) hx hb dX6_add_16 rfl hl (by decide) rfl (fun ls hl => ?_)
    refine lv_aload_n hx hb dX6_add_17 rfl (lv_at hl 1 rfl) ?_
    refine lv_dup hx hb dX6_add_18 rfl ?_
    refine b_get hx hb hT hK hown fl_X6_24 hw 0 0 rfl rfl (v := .int count) rfl dX6_add_19 ?_
    refine lv_iconst (v := 1) hx hb dX6_add_22 (by decide) ?_
    refine lv_iadd hx hb dX6_add_23 ?_
    obtain ⟨x1, ex1, h⟩ := g_bd_nm h
    refine g_topi ex1 ?_
    refine b_putf hx hb hT hK hown fl_X6_24 ft_X6 hw 0 0 rfl rfl rfl rfl rfl (Nat.le_of_ble_eq_true rfl) rfl (wb' := [k_Sheet g a o x1 widths heights groups rows]) rfl dX6_add_24 (fun H locs hw => ?_)
    refine lv_aload_n hx hb dX6_add_27 rfl (lv_at hl 1 rfl) ?_
    refine b_get hx hb hT hK hown fl_X6_9 hw 0 0 rfl rfl (v := .ref (a (o+1))) rfl dX6_add_28 ?_
    refine lv_iload_n hx hb dX6_add_31 rfl (lv_at hl 0 rfl) ?_
    refine lv_iload_n hx hb dX6_add_32 rfl (lv_at hl 2 rfl) ?_
    obtain ⟨f2, ef2, hif2, h⟩ := g_wr_some h
    refine b_iast hx hb hK hw 0 1 rfl (f := widths) rfl hif2 ef2 rfl (wb' := [k_Sheet g a o x1 f2 heights groups rows]) rfl dX6_add_33 (fun H locs hw => ?_)
    refine lv_aload_n hx hb dX6_add_34 rfl (lv_at hl 1 rfl) ?_
    refine b_get hx hb hT hK hown fl_X6_15 hw 0 0 rfl rfl (v := .ref (a (o+2))) rfl dX6_add_35 ?_
    refine lv_iload_n hx hb dX6_add_38 rfl (lv_at hl 0 rfl) ?_
    refine lv_iload_n hx hb dX6_add_39 rfl (lv_at hl 3 rfl) ?_
    obtain ⟨f3, ef3, hif3, h⟩ := g_wr_some h
    refine b_iast hx hb hK hw 0 2 rfl (f := heights) rfl hif3 ef3 rfl (wb' := [k_Sheet g a o x1 f2 f3 groups rows]) rfl dX6_add_40 (fun H locs hw => ?_)
    refine lv_aload_n hx hb dX6_add_41 rfl (lv_at hl 1 rfl) ?_
    refine b_get hx hb hT hK hown fl_X6_18 hw 0 0 rfl rfl (v := .ref (a (o+3))) rfl dX6_add_42 ?_
    refine lv_iload_n hx hb dX6_add_45 rfl (lv_at hl 0 rfl) ?_
    refine lv_iconst (v := 0) hx hb dX6_add_46 (by decide) ?_
    obtain ⟨f4, ef4, hif4, h⟩ := g_wr_some h
    refine b_iast hx hb hK hw 0 3 rfl (f := groups) rfl hif4 ef4 rfl (wb' := [k_Sheet g a o x1 f2 f3 f4 rows]) rfl dX6_add_47 (fun H locs hw => ?_)
    refine lv_iload_n hx hb dX6_add_48 rfl (lv_at hl 0 rfl) ?_
    refine lv_bipush (v := 8) hx hb dX6_add_49 (by decide) ?_
    refine lv_imul hx hb dX6_add_51 ?_
    obtain ⟨x5, ex5, h⟩ := g_bd_nm h
    refine g_topi ex5 ?_
    refine lv_istore (lv' := [(4, .int x5), (3, .int count), (0, .ref (a o)), (1, .int i1), (2, .int i2)]) hx hb dX6_add_52 hl (by decide) rfl (fun ls hl => ?_)
    refine lv_aload_n hx hb dX6_add_54 rfl (lv_at hl 2 rfl) ?_
    refine b_get hx hb hT hK hown fl_X6_21 hw 0 0 rfl rfl (v := .ref (a (o+4))) rfl dX6_add_55 ?_
    refine lv_iload hx hb dX6_add_58 (lv_at hl 0 rfl) ?_
    refine lv_iload hx hb dX6_add_60 (lv_at hl 0 rfl) ?_
    refine lv_bipush (v := 8) hx hb dX6_add_62 (by decide) ?_
    refine lv_iadd hx hb dX6_add_64 ?_
    refine lv_iconst (v := 0) hx hb dX6_add_65 (by decide) ?_
    obtain ⟨r6, er6, h⟩ := g_cl_some h
    refine b_callA hx hb hml hown hT hK hA hw mk_X6_36 (c_J7_fill_fda19 l D g (a (o+4)) 192 rows x5 (x5 + (8 : Int32)) (0 : Int32) r6 er6) 0 4 rfl rfl rfl hl.1 [] rfl (Nat.le_of_ble_eq_true rfl) ⟨Nat.le_of_ble_eq_true rfl, Nat.le_of_ble_eq_true rfl⟩ ⟨Nat.zero_le _, Nat.zero_le _⟩ dX6_add_66 rfl (wb' := [k_Sheet g a o x1 f2 f3 f4 r6]) rfl (st2 := []) rfl (fun H locs hw => ?_)
    refine lv_iload_n hx hb dX6_add_69 rfl (lv_at hl 1 rfl) ?_
    obtain rfl := Option.some.inj h
    exact b_iret hQ hx hb hr hlk hw rfl dX6_add_70
  · rw [if_neg hc6] at h
    refine lv_bipush (v := -4) hx hb dX6_add_9 (by decide) ?_
    obtain rfl := Option.some.inj h
    exact b_iret hQ hx hb hr hlk hw rfl dX6_add_11
set_option maxRecDepth 100000 in
set_option maxHeartbeats 4000000 in
theorem c_X6_remove (l : Launch) (D : va_G) (g : Nat → ClassId) (a : Nat → Nat) (o : Nat) (count : Int32) (widths : (Nat → Int32)) (heights : (Nat → Int32)) (groups : (Nat → Int32)) (rows : (Nat → Int32)) (i1 : Int32) (u : Int32 × (Nat → Int32) × (Nat → Int32) × (Nat → Int32) × (Nat → Int32)) (h : f_X6_remove count widths heights groups rows i1 = some u) : b_Ct l yX6_remove cX6_remove 4 none 1 21 D g [.ref (a o), .int i1] [k_Sheet g a o count widths heights groups rows] [k_Sheet g a o u.1 u.2.1 u.2.2.1 u.2.2.2.1 u.2.2.2.2] none := by
  refine b_start RX6 (by decide) rfl (Nat.le_of_ble_eq_true rfl) rfl ?_
  intro p e s m args below meth c A ls Q hQ hx hb hr hlk hml hown hT hK hA hw hl
  have hl : lv_has ls 4 [(0, .ref (a o)), (1, .int i1)] := hl
  unfold f_X6_remove at h
  refine lv_aload_n hx hb dX6_remove_0 rfl (lv_at hl 0 rfl) ?_
  refine lv_iload_n hx hb dX6_remove_1 rfl (lv_at hl 1 rfl) ?_
  refine b_callV hx hb hml hown hT hK hA hw mk_X6_28 (c_X6_has l D g a o count widths heights groups rows i1) [0] [] rfl (by decide) 0 0 rfl rfl rfl rfl hl.1 [] rfl (Nat.le_of_ble_eq_true rfl) ⟨Nat.le_of_ble_eq_true rfl, Nat.le_of_ble_eq_true rfl⟩ ⟨Nat.zero_le _, Nat.zero_le _⟩ dX6_remove_2 (wb' := [k_Sheet g a o count widths heights groups rows]) rfl b_e0 1 rfl (by decide) (st2 := [.int (f_X6_has count i1)]) rfl (fun H locs hw => ?_)
  refine lv_if_ne (tgt := 9) hx hb dX6_remove_5 (by decide) (fun hc5 => ?_) (fun hc5 => ?_)
  · rw [if_neg hc5] at h
    refine lv_aload_n hx hb dX6_remove_9 rfl (lv_at hl 0 rfl) ?_
    refine b_get hx hb hT hK hown fl_X6_24 hw 0 0 rfl rfl (v := .int count) rfl dX6_remove_10 ?_
    refine lv_iload_n hx hb dX6_remove_13 rfl (lv_at hl 1 rfl) ?_
    refine lv_isub hx hb dX6_remove_14 ?_
    refine lv_iconst (v := 1) hx hb dX6_remove_15 (by decide) ?_
    refine lv_isub hx hb dX6_remove_16 ?_
    obtain ⟨x1, ex1, h⟩ := g_bd_nm h
    refine g_topi ex1 ?_
    refine lv_istore_n (lv' := [(2, .int x1), (0, .ref (a o)), (1, .int i1)]) hx hb dX6_remove_17 rfl hl (by decide) rfl (fun ls hl => ?_)
    refine lv_aload_n hx hb dX6_remove_18 rfl (lv_at hl 1 rfl) ?_
    refine b_get hx hb hT hK hown fl_X6_9 hw 0 0 rfl rfl (v := .ref (a (o+1))) rfl dX6_remove_19 ?_
    refine lv_iload_n hx hb dX6_remove_22 rfl (lv_at hl 2 rfl) ?_
    refine lv_iconst (v := 1) hx hb dX6_remove_23 (by decide) ?_
    refine lv_iadd hx hb dX6_remove_24 ?_
    refine lv_aload_n hx hb dX6_remove_25 rfl (lv_at hl 1 rfl) ?_
    refine b_get hx hb hT hK hown fl_X6_9 hw 0 0 rfl rfl (v := .ref (a (o+1))) rfl dX6_remove_26 ?_
    refine lv_iload_n hx hb dX6_remove_29 rfl (lv_at hl 2 rfl) ?_
    refine lv_iload_n hx hb dX6_remove_30 rfl (lv_at hl 0 rfl) ?_
    obtain ⟨f2, ef2, hof2, h⟩ := g_cpy_some h
    refine b_copyi hx hb hml hl.1 hown hT hK hw ac_X6_42 ac_nat ac_st ac_ini 0 1 0 1 0 (f := widths) (f1 := widths) rfl rfl rfl rfl rfl rfl hof2 (fun _ _ => rfl) ef2 rfl (wb' := [k_Sheet g a o count f2 heights groups rows]) rfl (Nat.le_of_ble_eq_true rfl) (Nat.le_of_ble_eq_true rfl) dX6_remove_31 (fun H locs hw => ?_)
    refine lv_aload_n hx hb dX6_remove_34 rfl (lv_at hl 1 rfl) ?_
    refine b_get hx hb hT hK hown fl_X6_15 hw 0 0 rfl rfl (v := .ref (a (o+2))) rfl dX6_remove_35 ?_
    refine lv_iload_n hx hb dX6_remove_38 rfl (lv_at hl 2 rfl) ?_
    refine lv_iconst (v := 1) hx hb dX6_remove_39 (by decide) ?_
    refine lv_iadd hx hb dX6_remove_40 ?_
    refine lv_aload_n hx hb dX6_remove_41 rfl (lv_at hl 1 rfl) ?_
    refine b_get hx hb hT hK hown fl_X6_15 hw 0 0 rfl rfl (v := .ref (a (o+2))) rfl dX6_remove_42 ?_
    refine lv_iload_n hx hb dX6_remove_45 rfl (lv_at hl 2 rfl) ?_
    refine lv_iload_n hx hb dX6_remove_46 rfl (lv_at hl 0 rfl) ?_
    obtain ⟨f3, ef3, hof3, h⟩ := g_cpy_some h
    refine b_copyi hx hb hml hl.1 hown hT hK hw ac_X6_42 ac_nat ac_st ac_ini 0 2 0 2 0 (f := heights) (f1 := heights) rfl rfl rfl rfl rfl rfl hof3 (fun _ _ => rfl) ef3 rfl (wb' := [k_Sheet g a o count f2 f3 groups rows]) rfl (Nat.le_of_ble_eq_true rfl) (Nat.le_of_ble_eq_true rfl) dX6_remove_47 (fun H locs hw => ?_)
    refine lv_aload_n hx hb dX6_remove_50 rfl (lv_at hl 1 rfl) ?_
    refine b_get hx hb hT hK hown fl_X6_18 hw 0 0 rfl rfl (v := .ref (a (o+3))) rfl dX6_remove_51 ?_
    refine lv_iload_n hx hb dX6_remove_54 rfl (lv_at hl 2 rfl) ?_
    refine lv_iconst (v := 1) hx hb dX6_remove_55 (by decide) ?_
    refine lv_iadd hx hb dX6_remove_56 ?_
    refine lv_aload_n hx hb dX6_remove_57 rfl (lv_at hl 1 rfl) ?_
    refine b_get hx hb hT hK hown fl_X6_18 hw 0 0 rfl rfl (v := .ref (a (o+3))) rfl dX6_remove_58 ?_
    refine lv_iload_n hx hb dX6_remove_61 rfl (lv_at hl 2 rfl) ?_
    refine lv_iload_n hx hb dX6_remove_62 rfl (lv_at hl 0 rfl) ?_
    obtain ⟨f4, ef4, hof4, h⟩ := g_cpy_some h
    refine b_copyi hx hb hml hl.1 hown hT hK hw ac_X6_42 ac_nat ac_st ac_ini 0 3 0 3 0 (f := groups) (f1 := groups) rfl rfl rfl rfl rfl rfl hof4 (fun _ _ => rfl) ef4 rfl (wb' := [k_Sheet g a o count f2 f3 f4 rows]) rfl (Nat.le_of_ble_eq_true rfl) (Nat.le_of_ble_eq_true rfl) dX6_remove_63 (fun H locs hw => ?_)
    refine lv_iload_n hx hb dX6_remove_66 rfl (lv_at hl 2 rfl) ?_
    refine lv_bipush (v := 8) hx hb dX6_remove_67 (by decide) ?_
    refine lv_imul hx hb dX6_remove_69 ?_
    obtain ⟨x5, ex5, h⟩ := g_bd_nm h
    refine g_topi ex5 ?_
    refine lv_istore_n (lv' := [(3, .int x5), (2, .int x1), (0, .ref (a o)), (1, .int i1)]) hx hb dX6_remove_70 rfl hl (by decide) rfl (fun ls hl => ?_)
    refine lv_aload_n hx hb dX6_remove_71 rfl (lv_at hl 2 rfl) ?_
    refine b_get hx hb hT hK hown fl_X6_21 hw 0 0 rfl rfl (v := .ref (a (o+4))) rfl dX6_remove_72 ?_
    refine lv_iload_n hx hb dX6_remove_75 rfl (lv_at hl 0 rfl) ?_
    refine lv_bipush (v := 8) hx hb dX6_remove_76 (by decide) ?_
    refine lv_iadd hx hb dX6_remove_78 ?_
    refine lv_aload_n hx hb dX6_remove_79 rfl (lv_at hl 2 rfl) ?_
    refine b_get hx hb hT hK hown fl_X6_21 hw 0 0 rfl rfl (v := .ref (a (o+4))) rfl dX6_remove_80 ?_
    refine lv_iload_n hx hb dX6_remove_83 rfl (lv_at hl 0 rfl) ?_
    refine lv_iload_n hx hb dX6_remove_84 rfl (lv_at hl 1 rfl) ?_
    refine lv_bipush (v := 8) hx hb dX6_remove_85 (by decide) ?_
    refine lv_imul hx hb dX6_remove_87 ?_
    obtain ⟨f6, ef6, hof6, h⟩ := g_cpy_some h
    refine b_copyi hx hb hml hl.1 hown hT hK hw ac_X6_42 ac_nat ac_st ac_ini 0 4 0 4 0 (f := rows) (f1 := rows) rfl rfl rfl rfl rfl rfl hof6 (fun _ _ => rfl) ef6 rfl (wb' := [k_Sheet g a o count f2 f3 f4 f6]) rfl (Nat.le_of_ble_eq_true rfl) (Nat.le_of_ble_eq_true rfl) dX6_remove_88 (fun H locs hw => ?_)
    refine lv_aload_n hx hb dX6_remove_91 rfl (lv_at hl 2 rfl) ?_
    refine lv_dup hx hb dX6_remove_92 rfl ?_
    refine b_get hx hb hT hK hown fl_X6_24 hw 0 0 rfl rfl (v := .int count) rfl dX6_remove_93 ?_
    refine lv_iconst (v := 1) hx hb dX6_remove_96 (by decide) ?_
    refine lv_isub hx hb dX6_remove_97 ?_
    obtain ⟨x7, ex7, h⟩ := g_bd_nm h
    refine g_topi ex7 ?_
    refine b_putf hx hb hT hK hown fl_X6_24 ft_X6 hw 0 0 rfl rfl rfl rfl rfl (Nat.le_of_ble_eq_true rfl) rfl (wb' := [k_Sheet g a o x7 f2 f3 f4 f6]) rfl dX6_remove_98 (fun H locs hw => ?_)
    obtain rfl := Option.some.inj h
    exact b_vret hQ hx hb hr hlk hw rfl dX6_remove_101
  · rw [if_pos hc5] at h
    obtain rfl := Option.some.inj h
    exact b_vret hQ hx hb hr hlk hw rfl dX6_remove_8
set_option maxRecDepth 100000 in
set_option maxHeartbeats 4000000 in
theorem c_X9_add (l : Launch) (D : va_G) (g : Nat → ClassId) (a : Nat → Nat) (o : Nat) (length : Int32) (tcodes : (Nat → Int32)) (i1 : Int32) (u : Int32 × Int32 × (Nat → Int32)) (h : f_X9_add length tcodes i1 = some u) : b_Ct l yX9_add cX9_add 2 (some .boolean) 0 0 D g [.ref (a o), .int i1] [k_Text g a o length tcodes] [k_Text g a o u.2.1 u.2.2] (some (.int u.1)) := by
  refine b_start RX9 (by decide) rfl (Nat.le_of_ble_eq_true rfl) rfl ?_
  intro p e s m args below meth c A ls Q hQ hx hb hr hlk hml hown hT hK hA hw hl
  have hl : lv_has ls 2 [(0, .ref (a o)), (1, .int i1)] := hl
  unfold f_X9_add at h
  refine lv_aload_n hx hb dX9_add_0 rfl (lv_at hl 0 rfl) ?_
  refine b_get hx hb hT hK hown fl_X9_15 hw 0 0 rfl rfl (v := .int length) rfl dX9_add_1 ?_
  refine lv_sipush (v := 160) hx hb dX9_add_4 (by decide) ?_
  refine lv_icmp_lt (tgt := 12) hx hb dX9_add_7 (by decide) (fun hc7 => ?_) (fun hc7 => ?_)
  · rw [if_pos hc7] at h
    refine lv_aload_n hx hb dX9_add_12 rfl (lv_at hl 0 rfl) ?_
    refine b_get hx hb hT hK hown fl_X9_9 hw 0 0 rfl rfl (v := .ref (a (o+1))) rfl dX9_add_13 ?_
    refine lv_aload_n hx hb dX9_add_16 rfl (lv_at hl 0 rfl) ?_
    refine b_get hx hb hT hK hown fl_X9_15 hw 0 0 rfl rfl (v := .int length) rfl dX9_add_17 ?_
    refine lv_iload_n hx hb dX9_add_20 rfl (lv_at hl 1 rfl) ?_
    obtain ⟨f1, ef1, hif1, h⟩ := g_wr_some h
    refine b_iast hx hb hK hw 0 1 rfl (f := tcodes) rfl hif1 ef1 rfl (wb' := [k_Text g a o length f1]) rfl dX9_add_21 (fun H locs hw => ?_)
    refine lv_aload_n hx hb dX9_add_22 rfl (lv_at hl 0 rfl) ?_
    refine lv_dup hx hb dX9_add_23 rfl ?_
    refine b_get hx hb hT hK hown fl_X9_15 hw 0 0 rfl rfl (v := .int length) rfl dX9_add_24 ?_
    refine lv_iconst (v := 1) hx hb dX9_add_27 (by decide) ?_
    refine lv_iadd hx hb dX9_add_28 ?_
    obtain ⟨x2, ex2, h⟩ := g_bd_nm h
    refine g_topi ex2 ?_
    refine b_putf hx hb hT hK hown fl_X9_15 ft_X9 hw 0 0 rfl rfl rfl rfl rfl (Nat.le_of_ble_eq_true rfl) rfl (wb' := [k_Text g a o x2 f1]) rfl dX9_add_29 (fun H locs hw => ?_)
    refine lv_iconst (v := 1) hx hb dX9_add_32 (by decide) ?_
    obtain rfl := Option.some.inj h
    exact b_zret hQ hx hb hr hlk (Or.inr rfl) hw rfl dX9_add_33
  · rw [if_neg hc7] at h
    refine lv_iconst (v := 0) hx hb dX9_add_10 (by decide) ?_
    obtain rfl := Option.some.inj h
    exact b_zret hQ hx hb hr hlk (Or.inl rfl) hw rfl dX9_add_11
set_option maxRecDepth 100000 in
set_option maxHeartbeats 4000000 in
theorem c_X9_isDigit (l : Launch) (D : va_G) (g : Nat → ClassId) (i1 : Int32) : b_Ct l yX9_isDigit cX9_isDigit 1 (some .boolean) 0 0 D g [.int i1] ([] : List va_W) ([] : List va_W) (some (.int (f_X9_isDigit i1))) := by
  refine b_start RX9 (by decide) rfl (Nat.le_of_ble_eq_true rfl) rfl ?_
  intro p e s m args below meth c A ls Q hQ hx hb hr hlk hml hown hT hK hA hw hl
  have hl : lv_has ls 1 [(0, .int i1)] := hl
  generalize h : f_X9_isDigit i1 = u at hQ
  unfold f_X9_isDigit at h
  refine lv_iload_n hx hb dX9_isDigit_0 rfl (lv_at hl 0 rfl) ?_
  refine lv_bipush (v := 48) hx hb dX9_isDigit_1 (by decide) ?_
  refine lv_icmp_lt (tgt := 16) hx hb dX9_isDigit_3 (by decide) (fun hc3 => ?_) (fun hc3 => ?_)
  · rw [if_pos hc3] at h
    refine lv_iconst (v := 0) hx hb dX9_isDigit_16 (by decide) ?_
    obtain rfl := h
    exact b_zret hQ hx hb hr hlk (Or.inl rfl) hw rfl dX9_isDigit_17
  · rw [if_neg hc3] at h
    refine lv_iload_n hx hb dX9_isDigit_6 rfl (lv_at hl 0 rfl) ?_
    refine lv_bipush (v := 57) hx hb dX9_isDigit_7 (by decide) ?_
    refine lv_icmp_gt (tgt := 16) hx hb dX9_isDigit_9 (by decide) (fun hc9 => ?_) (fun hc9 => ?_)
    · rw [if_pos hc9] at h
      refine lv_iconst (v := 0) hx hb dX9_isDigit_16 (by decide) ?_
      obtain rfl := h
      exact b_zret hQ hx hb hr hlk (Or.inl rfl) hw rfl dX9_isDigit_17
    · rw [if_neg hc9] at h
      refine lv_iconst (v := 1) hx hb dX9_isDigit_12 (by decide) ?_
      refine lv_goto (tgt := 17) hx hb dX9_isDigit_13 (by decide) ?_
      obtain rfl := h
      exact b_zret hQ hx hb hr hlk (Or.inr rfl) hw rfl dX9_isDigit_17
set_option maxRecDepth 100000 in
set_option maxHeartbeats 4000000 in
theorem c_X9_findFault (l : Launch) (D : va_G) (g : Nat → ClassId) (a : Nat → Nat) (o : Nat) (length : Int32) (tcodes : (Nat → Int32)) (u : Int32) (h : f_X9_findFault length tcodes = some u) : b_Ct l yX9_findFault cX9_findFault 7 (some .int) 1 20 D g [.ref (a o)] [k_Text g a o length tcodes] [k_Text g a o length tcodes] (some (.int u)) := by
  refine b_start RX9 (by decide) rfl (Nat.le_of_ble_eq_true rfl) rfl ?_
  intro p e s m args below meth c A ls Q hQ hx hb hr hlk hml hown hT hK hA hw hl
  have hl : lv_has ls 7 [(0, .ref (a o))] := hl
  unfold f_X9_findFault at h
  refine lv_iconst (v := 0) hx hb dX9_findFault_0 (by decide) ?_
  refine lv_istore_n (lv' := [(1, .int (0 : Int32)), (0, .ref (a o))]) hx hb dX9_findFault_1 rfl hl (by decide) rfl (fun ls hl => ?_)
  refine lv_iconst (v := 0) hx hb dX9_findFault_2 (by decide) ?_
  refine lv_istore_n (lv' := [(2, .int (0 : Int32)), (1, .int (0 : Int32)), (0, .ref (a o))]) hx hb dX9_findFault_3 rfl hl (by decide) rfl (fun ls hl => ?_)
  refine lv_bipush (v := 8) hx hb dX9_findFault_4 (by decide) ?_
  refine lv_istore_n (lv' := [(3, .int (8 : Int32)), (2, .int (0 : Int32)), (1, .int (0 : Int32)), (0, .ref (a o))]) hx hb dX9_findFault_6 rfl hl (by decide) rfl (fun ls hl => ?_)
  refine lv_iconst (v := 0) hx hb dX9_findFault_7 (by decide) ?_
  refine lv_istore (lv' := [(4, .int (0 : Int32)), (3, .int (8 : Int32)), (2, .int (0 : Int32)), (1, .int (0 : Int32)), (0, .ref (a o))]) hx hb dX9_findFault_8 hl (by decide) rfl (fun ls hl => ?_)
  obtain ⟨k126_2, ek126_2, h⟩ := g_jn_nm h
  have hk126_2 : ∀ (x1 : Int32) (x2 : Int32) (H : Heap) (locs : List Loc) (ls : Array Slot), b_Wd D A s.heap H locs [k_Text g a o length tcodes] → lv_has ls 7 [(0, .ref (a o)), (1, .int x1), (2, .int x2)] → k126_2 x1 x2 = some u → W p l e (g_rm 1 20) s m args below meth c H locs 0 0 Q (F0 m 126 ls []) := by
    intro x1 x2 H locs ls hw hl h
    subst ek126_2
    dsimp only at h
    refine lv_iload_n hx hb dX9_findFault_126 rfl (lv_at hl 1 rfl) ?_
    obtain ⟨j139_3, ej139_3, h⟩ := g_jn_nm h
    have hj139_3 : ∀ (H : Heap) (locs : List Loc) (ls : Array Slot), b_Wd D A s.heap H locs [k_Text g a o length tcodes] → lv_has ls 7 [(0, .ref (a o))] → j139_3 = some u → W p l e (g_rm 1 20) s m args below meth c H locs 0 0 Q (F0 m 139 ls []) := by
      intro  H locs ls hw hl h
      subst ej139_3
      refine lv_aload_n hx hb dX9_findFault_139 rfl (lv_at hl 0 rfl) ?_
      refine b_get hx hb hT hK hown fl_X9_15 hw 0 0 rfl rfl (v := .int length) rfl dX9_findFault_140 ?_
      obtain rfl := Option.some.inj h
      exact b_iret hQ hx hb hr hlk hw rfl dX9_findFault_143
    refine lv_if_ne (tgt := 139) hx hb dX9_findFault_127 (by decide) (fun hc127 => ?_) (fun hc127 => ?_)
    · rw [if_neg hc127] at h
      exact hj139_3  _ _ _ hw (lv_sub hl [0] rfl) h
    · rw [if_pos hc127] at h
      refine lv_iload_n hx hb dX9_findFault_130 rfl (lv_at hl 2 rfl) ?_
      refine lv_if_ne (tgt := 139) hx hb dX9_findFault_131 (by decide) (fun hc131 => ?_) (fun hc131 => ?_)
      · rw [if_neg hc131] at h
        exact hj139_3  _ _ _ hw (lv_sub hl [0] rfl) h
      · rw [if_pos hc131] at h
        refine lv_bipush (v := -4) hx hb dX9_findFault_134 (by decide) ?_
        refine lv_goto (tgt := 143) hx hb dX9_findFault_136 (by decide) ?_
        obtain rfl := Option.some.inj h
        exact b_iret hQ hx hb hr hlk hw rfl dX9_findFault_143
  have hL10 : ∀ (n : Nat) (x5 : Int32) (x6 : Int32) (x7 : Int32) (x8 : Int32) (H : Heap) (locs : List Loc) (ls : Array Slot), b_Wd D A s.heap H locs [k_Text g a o length tcodes] → lv_has ls 7 [(0, .ref (a o)), (1, .int x5), (2, .int x6), (3, .int x7), (4, .int x8)] → f_X9_findFault_L10 length tcodes k126_2 n x5 x6 x7 x8 = some u → W p l e (g_rm 1 20) s m args below meth c H locs 0 0 Q (F0 m 10 ls []) := by
    intro n
    induction n with
    | zero =>
      intro x5 x6 x7 x8 H locs ls hw hl h
      cases (show none = some u from h)
    | succ n ih10 =>
      intro x5 x6 x7 x8 H locs ls hw hl h
      rw [f_X9_findFault_L10] at h
      refine lv_iload hx hb dX9_findFault_10 (lv_at hl 4 rfl) ?_
      refine lv_aload_n hx hb dX9_findFault_12 rfl (lv_at hl 0 rfl) ?_
      refine b_get hx hb hT hK hown fl_X9_15 hw 0 0 rfl rfl (v := .int length) rfl dX9_findFault_13 ?_
      refine lv_icmp_ge (tgt := 126) hx hb dX9_findFault_16 (by decide) (fun hc16 => ?_) (fun hc16 => ?_)
      · rw [if_pos hc16] at h
        exact hk126_2 x5 x6 _ _ _ hw (lv_sub hl [0, 1, 2] rfl) h
      · rw [if_neg hc16] at h
        refine lv_aload_n hx hb dX9_findFault_19 rfl (lv_at hl 0 rfl) ?_
        refine b_get hx hb hT hK hown fl_X9_9 hw 0 0 rfl rfl (v := .ref (a (o+1))) rfl dX9_findFault_20 ?_
        refine lv_iload hx hb dX9_findFault_23 (lv_at hl 4 rfl) ?_
        obtain ⟨x9, ex9, hix9, h⟩ := g_rd_some h
        refine b_iald hx hb hK hw 0 1 rfl (f := tcodes) rfl hix9 ex9 dX9_findFault_25 ?_
        refine lv_istore (lv' := [(5, .int x9), (0, .ref (a o)), (1, .int x5), (2, .int x6), (3, .int x7), (4, .int x8)]) hx hb dX9_findFault_26 hl (by decide) rfl (fun ls hl => ?_)
        refine lv_iload_n hx hb dX9_findFault_28 rfl (lv_at hl 3 rfl) ?_
        obtain ⟨j46_10, ej46_10, h⟩ := g_jn_nm h
        have hj46_10 : ∀ (x10 : Int32) (H : Heap) (locs : List Loc) (ls : Array Slot), b_Wd D A s.heap H locs [k_Text g a o length tcodes] → lv_has ls 7 [(0, .ref (a o)), (1, .int x5), (2, .int x6), (3, .int x7), (4, .int x8), (5, .int x9)] → j46_10 x10 = some u → W p l e (g_rm 1 20) s m args below meth c H locs 0 0 Q (F0 m 46 ls [.int x10]) := by
          intro x10 H locs ls hw hl h
          subst ej46_10
          dsimp only at h
          refine lv_istore (lv' := [(6, .int x10), (0, .ref (a o)), (1, .int x5), (2, .int x6), (3, .int x7), (4, .int x8), (5, .int x9)]) hx hb dX9_findFault_46 hl (by decide) rfl (fun ls hl => ?_)
          refine lv_iload hx hb dX9_findFault_48 (lv_at hl 6 rfl) ?_
          refine b_callS hx hb hml hown hT hK hA hw mk_X9_19 (c_X9_isDigit l D g x9) [] [0] rfl (by decide) rfl hl.1 [] rfl (Nat.le_of_ble_eq_true rfl) ⟨Nat.le_of_ble_eq_true rfl, Nat.le_of_ble_eq_true rfl⟩ ⟨Nat.zero_le _, Nat.zero_le _⟩ dX9_findFault_50 (wb' := [k_Text g a o length tcodes]) rfl (b_e1 rfl b_e0) 1 rfl (by decide) (st2 := [.int (f_X9_isDigit x9)]) rfl (fun H locs hw => ?_)
          obtain ⟨j120_14, ej120_14, h⟩ := g_jn_nm h
          have hj120_14 : ∀ (x12 : Int32) (x13 : Int32) (x14 : Int32) (H : Heap) (locs : List Loc) (ls : Array Slot), b_Wd D A s.heap H locs [k_Text g a o length tcodes] → lv_has ls 7 [(0, .ref (a o)), (1, .int x12), (2, .int x13), (3, .int x14), (4, .int x8)] → j120_14 x12 x13 x14 = some u → W p l e (g_rm 1 20) s m args below meth c H locs 0 0 Q (F0 m 120 ls []) := by
            intro x12 x13 x14 H locs ls hw hl h
            subst ej120_14
            dsimp only at h
            obtain ⟨x16, ex16, h⟩ := g_bd_nm h
            refine lv_iinc (v := x16) (lv' := [(4, .int x16), (0, .ref (a o)), (1, .int x12), (2, .int x13), (3, .int x14)]) hx hb dX9_findFault_120 hl (k := 4) rfl (by rw [ex16]; rfl) (by decide) rfl (fun ls hl => ?_)
            refine lv_goto (tgt := 10) hx hb dX9_findFault_123 (by decide) ?_
            exact ih10 x12 x13 x14 x16 _ _ _ hw (lv_sub hl [1, 2, 3, 4, 0] rfl) h
          obtain ⟨j67_16, ej67_16, h⟩ := g_jn_nm h
          have hj67_16 : ∀ (H : Heap) (locs : List Loc) (ls : Array Slot), b_Wd D A s.heap H locs [k_Text g a o length tcodes] → lv_has ls 7 [(0, .ref (a o)), (1, .int x5), (2, .int x6), (4, .int x8), (5, .int x9), (6, .int x10)] → j67_16 = some u → W p l e (g_rm 1 20) s m args below meth c H locs 0 0 Q (F0 m 67 ls []) := by
            intro  H locs ls hw hl h
            subst ej67_16
            refine lv_iload hx hb dX9_findFault_67 (lv_at hl 4 rfl) ?_
            refine lv_bipush (v := 47) hx hb dX9_findFault_69 (by decide) ?_
            obtain ⟨j95_17, ej95_17, h⟩ := g_jn_nm h
            have hj95_17 : ∀ (H : Heap) (locs : List Loc) (ls : Array Slot), b_Wd D A s.heap H locs [k_Text g a o length tcodes] → lv_has ls 7 [(0, .ref (a o)), (4, .int x8), (5, .int x9), (6, .int x10)] → j95_17 = some u → W p l e (g_rm 1 20) s m args below meth c H locs 0 0 Q (F0 m 95 ls []) := by
              intro  H locs ls hw hl h
              subst ej95_17
              refine lv_iload hx hb dX9_findFault_95 (lv_at hl 2 rfl) ?_
              refine lv_bipush (v := 59) hx hb dX9_findFault_97 (by decide) ?_
              refine lv_icmp_ne (tgt := 117) hx hb dX9_findFault_99 (by decide) (fun hc99 => ?_) (fun hc99 => ?_)
              · rw [if_neg hc99] at h
                refine lv_iload hx hb dX9_findFault_117 (lv_at hl 1 rfl) ?_
                obtain rfl := Option.some.inj h
                exact b_iret hQ hx hb hr hlk hw rfl dX9_findFault_119
              · rw [if_pos hc99] at h
                refine lv_iload hx hb dX9_findFault_102 (lv_at hl 3 rfl) ?_
                refine lv_if_eq (tgt := 117) hx hb dX9_findFault_104 (by decide) (fun hc104 => ?_) (fun hc104 => ?_)
                · rw [if_pos hc104] at h
                  refine lv_iload hx hb dX9_findFault_117 (lv_at hl 1 rfl) ?_
                  obtain rfl := Option.some.inj h
                  exact b_iret hQ hx hb hr hlk hw rfl dX9_findFault_119
                · rw [if_neg hc104] at h
                  refine lv_bipush (v := 8) hx hb dX9_findFault_107 (by decide) ?_
                  refine lv_istore_n (lv' := [(3, .int (8 : Int32)), (0, .ref (a o)), (4, .int x8), (5, .int x9), (6, .int x10)]) hx hb dX9_findFault_109 rfl hl (by decide) rfl (fun ls hl => ?_)
                  refine lv_iconst (v := 0) hx hb dX9_findFault_110 (by decide) ?_
                  refine lv_istore_n (lv' := [(2, .int (0 : Int32)), (3, .int (8 : Int32)), (0, .ref (a o)), (4, .int x8), (5, .int x9), (6, .int x10)]) hx hb dX9_findFault_111 rfl hl (by decide) rfl (fun ls hl => ?_)
                  refine lv_iconst (v := 0) hx hb dX9_findFault_112 (by decide) ?_
                  refine lv_istore_n (lv' := [(1, .int (0 : Int32)), (2, .int (0 : Int32)), (3, .int (8 : Int32)), (0, .ref (a o)), (4, .int x8), (5, .int x9), (6, .int x10)]) hx hb dX9_findFault_113 rfl hl (by decide) rfl (fun ls hl => ?_)
                  refine lv_goto (tgt := 120) hx hb dX9_findFault_114 (by decide) ?_
                  exact hj120_14 (0 : Int32) (0 : Int32) (8 : Int32) _ _ _ hw (lv_sub hl [3, 0, 1, 2, 4] rfl) h
            refine lv_icmp_ne (tgt := 95) hx hb dX9_findFault_71 (by decide) (fun hc71 => ?_) (fun hc71 => ?_)
            · rw [if_neg hc71] at h
              exact hj95_17  _ _ _ hw (lv_sub hl [0, 3, 4, 5] rfl) h
            · rw [if_pos hc71] at h
              refine lv_iload hx hb dX9_findFault_74 (lv_at hl 5 rfl) ?_
              refine lv_if_eq (tgt := 95) hx hb dX9_findFault_76 (by decide) (fun hc76 => ?_) (fun hc76 => ?_)
              · rw [if_pos hc76] at h
                exact hj95_17  _ _ _ hw (lv_sub hl [0, 3, 4, 5] rfl) h
              · rw [if_neg hc76] at h
                refine lv_iload_n hx hb dX9_findFault_79 rfl (lv_at hl 1 rfl) ?_
                refine lv_bipush (v := 7) hx hb dX9_findFault_80 (by decide) ?_
                refine lv_icmp_ge (tgt := 95) hx hb dX9_findFault_82 (by decide) (fun hc82 => ?_) (fun hc82 => ?_)
                · rw [if_pos hc82] at h
                  exact hj95_17  _ _ _ hw (lv_sub hl [0, 3, 4, 5] rfl) h
                · rw [if_neg hc82] at h
                  refine lv_iload_n hx hb dX9_findFault_85 rfl (lv_at hl 2 rfl) ?_
                  refine lv_istore_n (lv' := [(3, .int x6), (0, .ref (a o)), (1, .int x5), (2, .int x6), (4, .int x8), (5, .int x9), (6, .int x10)]) hx hb dX9_findFault_86 rfl hl (by decide) rfl (fun ls hl => ?_)
                  refine lv_iconst (v := 0) hx hb dX9_findFault_87 (by decide) ?_
                  refine lv_istore_n (lv' := [(2, .int (0 : Int32)), (3, .int x6), (0, .ref (a o)), (1, .int x5), (4, .int x8), (5, .int x9), (6, .int x10)]) hx hb dX9_findFault_88 rfl hl (by decide) rfl (fun ls hl => ?_)
                  obtain ⟨x19, ex19, h⟩ := g_bd_nm h
                  refine lv_iinc (v := x19) (lv' := [(1, .int x19), (2, .int (0 : Int32)), (3, .int x6), (0, .ref (a o)), (4, .int x8), (5, .int x9), (6, .int x10)]) hx hb dX9_findFault_89 hl (k := 3) rfl (by rw [ex19]; rfl) (by decide) rfl (fun ls hl => ?_)
                  refine lv_goto (tgt := 120) hx hb dX9_findFault_92 (by decide) ?_
                  exact hj120_14 x19 (0 : Int32) x6 _ _ _ hw (lv_sub hl [3, 0, 1, 2, 4] rfl) h
          refine lv_if_eq (tgt := 67) hx hb dX9_findFault_53 (by decide) (fun hc53 => ?_) (fun hc53 => ?_)
          · rw [if_pos hc53] at h
            exact hj67_16  _ _ _ hw (lv_sub hl [1, 2, 3, 5, 6, 0] rfl) h
          · rw [if_neg hc53] at h
            refine lv_iload_n hx hb dX9_findFault_56 rfl (lv_at hl 3 rfl) ?_
            refine lv_iload_n hx hb dX9_findFault_57 rfl (lv_at hl 4 rfl) ?_
            refine lv_icmp_ge (tgt := 67) hx hb dX9_findFault_58 (by decide) (fun hc58 => ?_) (fun hc58 => ?_)
            · rw [if_pos hc58] at h
              exact hj67_16  _ _ _ hw (lv_sub hl [1, 2, 3, 5, 6, 0] rfl) h
            · rw [if_neg hc58] at h
              obtain ⟨x20, ex20, h⟩ := g_bd_nm h
              refine lv_iinc (v := x20) (lv' := [(2, .int x20), (6, .int x10), (0, .ref (a o)), (1, .int x5), (3, .int x7), (4, .int x8), (5, .int x9)]) hx hb dX9_findFault_61 hl (k := 3) rfl (by rw [ex20]; rfl) (by decide) rfl (fun ls hl => ?_)
              refine lv_goto (tgt := 120) hx hb dX9_findFault_64 (by decide) ?_
              exact hj120_14 x5 x20 x7 _ _ _ hw (lv_sub hl [2, 3, 0, 4, 5] rfl) h
        obtain ⟨j45_20, ej45_20, h⟩ := g_jn_nm h
        have hj45_20 : ∀ (H : Heap) (locs : List Loc) (ls : Array Slot), b_Wd D A s.heap H locs [k_Text g a o length tcodes] → lv_has ls 7 [(0, .ref (a o)), (1, .int x5), (2, .int x6), (3, .int x7), (4, .int x8), (5, .int x9)] → j45_20 = some u → W p l e (g_rm 1 20) s m args below meth c H locs 0 0 Q (F0 m 45 ls []) := by
          intro  H locs ls hw hl h
          subst ej45_20
          refine lv_iconst (v := 0) hx hb dX9_findFault_45 (by decide) ?_
          exact hj46_10 (0 : Int32) _ _ _ hw (lv_sub hl [0, 1, 2, 3, 4, 5] rfl) h
        refine lv_if_le (tgt := 45) hx hb dX9_findFault_29 (by decide) (fun hc29 => ?_) (fun hc29 => ?_)
        · rw [if_pos hc29] at h
          exact hj45_20  _ _ _ hw (lv_sub hl [1, 2, 3, 4, 5, 0] rfl) h
        · rw [if_neg hc29] at h
          refine lv_iload_n hx hb dX9_findFault_32 rfl (lv_at hl 2 rfl) ?_
          obtain ⟨j41_21, ej41_21, h⟩ := g_jn_nm h
          have hj41_21 : ∀ (H : Heap) (locs : List Loc) (ls : Array Slot), b_Wd D A s.heap H locs [k_Text g a o length tcodes] → lv_has ls 7 [(0, .ref (a o)), (1, .int x5), (2, .int x6), (3, .int x7), (4, .int x8), (5, .int x9)] → j41_21 = some u → W p l e (g_rm 1 20) s m args below meth c H locs 0 0 Q (F0 m 41 ls []) := by
            intro  H locs ls hw hl h
            subst ej41_21
            refine lv_iconst (v := 1) hx hb dX9_findFault_41 (by decide) ?_
            refine lv_goto (tgt := 46) hx hb dX9_findFault_42 (by decide) ?_
            exact hj46_10 (1 : Int32) _ _ _ hw (lv_sub hl [0, 1, 2, 3, 4, 5] rfl) h
          refine lv_if_eq (tgt := 41) hx hb dX9_findFault_33 (by decide) (fun hc33 => ?_) (fun hc33 => ?_)
          · rw [if_pos hc33] at h
            exact hj41_21  _ _ _ hw (lv_sub hl [1, 2, 3, 4, 5, 0] rfl) h
          · rw [if_neg hc33] at h
            refine lv_iload_n hx hb dX9_findFault_36 rfl (lv_at hl 3 rfl) ?_
            refine lv_iload_n hx hb dX9_findFault_37 rfl (lv_at hl 4 rfl) ?_
            refine lv_icmp_ne (tgt := 45) hx hb dX9_findFault_38 (by decide) (fun hc38 => ?_) (fun hc38 => ?_)
            · rw [if_neg hc38] at h
              exact hj45_20  _ _ _ hw (lv_sub hl [1, 2, 3, 4, 5, 0] rfl) h
            · rw [if_pos hc38] at h
              exact hj41_21  _ _ _ hw (lv_sub hl [1, 2, 3, 4, 5, 0] rfl) h
  exact hL10 g_fuel (0 : Int32) (0 : Int32) (8 : Int32) (0 : Int32) _ _ _ hw (lv_sub hl [4, 3, 2, 1, 0] rfl) h
set_option maxRecDepth 100000 in
set_option maxHeartbeats 4000000 in
theorem c_X9_countImages (l : Launch) (D : va_G) (g : Nat → ClassId) (a : Nat → Nat) (o : Nat) (length : Int32) (tcodes : (Nat → Int32)) (u : Int32) (h : f_X9_countImages length tcodes = some u) : b_Ct l yX9_countImages cX9_countImages 3 (some .int) 0 0 D g [.ref (a o)] [k_Text g a o length tcodes] [k_Text g a o length tcodes] (some (.int u)) := by
  refine b_start RX9 (by decide) rfl (Nat.le_of_ble_eq_true rfl) rfl ?_
  intro p e s m args below meth c A ls Q hQ hx hb hr hlk hml hown hT hK hA hw hl
  have hl : lv_has ls 3 [(0, .ref (a o))] := hl
  unfold f_X9_countImages at h
  refine lv_iconst (v := 0) hx hb dX9_countImages_0 (by decide) ?_
  refine lv_istore_n (lv' := [(1, .int (0 : Int32)), (0, .ref (a o))]) hx hb dX9_countImages_1 rfl hl (by decide) rfl (fun ls hl => ?_)
  refine lv_iconst (v := 0) hx hb dX9_countImages_2 (by decide) ?_
  refine lv_istore_n (lv' := [(2, .int (0 : Int32)), (1, .int (0 : Int32)), (0, .ref (a o))]) hx hb dX9_countImages_3 rfl hl (by decide) rfl (fun ls hl => ?_)
  have hL4 : ∀ (n : Nat) (x1 : Int32) (x2 : Int32) (H : Heap) (locs : List Loc) (ls : Array Slot), b_Wd D A s.heap H locs [k_Text g a o length tcodes] → lv_has ls 3 [(0, .ref (a o)), (1, .int x1), (2, .int x2)] → f_X9_countImages_L4 length tcodes n x1 x2 = some u → W p l e (g_rm 0 0) s m args below meth c H locs 0 0 Q (F0 m 4 ls []) := by
    intro n
    induction n with
    | zero =>
      intro x1 x2 H locs ls hw hl h
      cases (show none = some u from h)
    | succ n ih4 =>
      intro x1 x2 H locs ls hw hl h
      rw [f_X9_countImages_L4] at h
      refine lv_iload_n hx hb dX9_countImages_4 rfl (lv_at hl 2 rfl) ?_
      refine lv_aload_n hx hb dX9_countImages_5 rfl (lv_at hl 0 rfl) ?_
      refine b_get hx hb hT hK hown fl_X9_15 hw 0 0 rfl rfl (v := .int length) rfl dX9_countImages_6 ?_
      refine lv_icmp_ge (tgt := 32) hx hb dX9_countImages_9 (by decide) (fun hc9 => ?_) (fun hc9 => ?_)
      · rw [if_pos hc9] at h
        refine lv_iload_n hx hb dX9_countImages_32 rfl (lv_at hl 1 rfl) ?_
        obtain rfl := Option.some.inj h
        exact b_iret hQ hx hb hr hlk hw rfl dX9_countImages_33
      · rw [if_neg hc9] at h
        refine lv_aload_n hx hb dX9_countImages_12 rfl (lv_at hl 0 rfl) ?_
        refine b_get hx hb hT hK hown fl_X9_9 hw 0 0 rfl rfl (v := .ref (a (o+1))) rfl dX9_countImages_13 ?_
        refine lv_iload_n hx hb dX9_countImages_16 rfl (lv_at hl 2 rfl) ?_
        obtain ⟨x3, ex3, hix3, h⟩ := g_rd_some h
        refine b_iald hx hb hK hw 0 1 rfl (f := tcodes) rfl hix3 ex3 dX9_countImages_17 ?_
        refine lv_bipush (v := 59) hx hb dX9_countImages_18 (by decide) ?_
        obtain ⟨j26_4, ej26_4, h⟩ := g_bd_k h
        have hj26_4 : ∀ (x4 : Int32) (H : Heap) (locs : List Loc) (ls : Array Slot), b_Wd D A s.heap H locs [k_Text g a o length tcodes] → lv_has ls 3 [(0, .ref (a o)), (1, .int x4), (2, .int x2)] → j26_4 x4 = some u → W p l e (g_rm 0 0) s m args below meth c H locs 0 0 Q (F0 m 26 ls []) := by
          intro x4 H locs ls hw hl h
          subst ej26_4
          dsimp only at h
          obtain ⟨x5, ex5, h⟩ := g_bd_nm h
          refine lv_iinc (v := x5) (lv' := [(2, .int x5), (0, .ref (a o)), (1, .int x4)]) hx hb dX9_countImages_26 hl (k := 2) rfl (by rw [ex5]; rfl) (by decide) rfl (fun ls hl => ?_)
          refine lv_goto (tgt := 4) hx hb dX9_countImages_29 (by decide) ?_
          exact ih4 x4 x5 _ _ _ hw (lv_sub hl [1, 2, 0] rfl) h
        refine lv_icmp_ne (tgt := 26) hx hb dX9_countImages_20 (by decide) (fun hc20 => ?_) (fun hc20 => ?_)
        · rw [if_neg hc20] at h
          exact hj26_4 x1 _ _ _ hw (lv_sub hl [0, 1, 2] rfl) h
        · rw [if_pos hc20] at h
          refine lv_iinc (v := (x1 + 1)) (lv' := [(1, .int (x1 + 1)), (0, .ref (a o)), (2, .int x2)]) hx hb dX9_countImages_23 hl (k := 1) rfl rfl (by decide) rfl (fun ls hl => ?_)
          exact hj26_4 (x1 + 1) _ _ _ hw (lv_sub hl [1, 0, 2] rfl) h
  exact hL4 g_fuel (0 : Int32) (0 : Int32) _ _ _ hw (lv_sub hl [2, 1, 0] rfl) h
set_option maxRecDepth 100000 in
set_option maxHeartbeats 4000000 in
theorem c_X9_addImage (l : Launch) (D : va_G) (g : Nat → ClassId) (a : Nat → Nat) (o : Nat) (a1 : Nat → Nat) (o1 : Nat) (length : Int32) (tcodes : (Nat → Int32)) (count : Int32) (widths : (Nat → Int32)) (heights : (Nat → Int32)) (groups : (Nat → Int32)) (rows : (Nat → Int32)) (i1 : Int32) (i2 : Int32) (u : Int32 × (Nat → Int32) × (Nat → Int32) × (Nat → Int32) × (Nat → Int32)) (h : f_X9_addImage tcodes count widths heights groups rows i1 i2 = some u) : b_Ct l yX9_addImage cX9_addImage 9 none 3 70 D g [.ref (a o), .ref (a1 o1), .int i1, .int i2] [k_Text g a o length tcodes, k_Sheet g a1 o1 count widths heights groups rows] [k_Text g a o length tcodes, k_Sheet g a1 o1 u.1 u.2.1 u.2.2.1 u.2.2.2.1 u.2.2.2.2] none := by
  refine b_start RX9 (by decide) rfl (Nat.le_of_ble_eq_true rfl) rfl ?_
  intro p e s m args below meth c A ls Q hQ hx hb hr hlk hml hown hT hK hA hw hl
  have hl : lv_has ls 9 [(0, .ref (a o)), (1, .ref (a1 o1)), (2, .int i1), (3, .int i2)] := hl
  unfold f_X9_addImage at h
  refine lv_iconst (v := 0) hx hb dX9_addImage_0 (by decide) ?_
  refine lv_istore (lv' := [(4, .int (0 : Int32)), (0, .ref (a o)), (1, .ref (a1 o1)), (2, .int i1), (3, .int i2)]) hx hb dX9_addImage_1 hl (by decide) rfl (fun ls hl => ?_)
  obtain ⟨k32_1, ek32_1, h⟩ := g_jn_nm h
  have hk32_1 : ∀ (x1 : Int32) (H : Heap) (locs : List Loc) (ls : Array Slot), b_Wd D A s.heap H locs [k_Text g a o length tcodes, k_Sheet g a1 o1 count widths heights groups rows] → lv_has ls 9 [(0, .ref (a o)), (1, .ref (a1 o1)), (2, .int i1), (3, .int i2), (4, .int x1)] → k32_1 x1 = some u → W p l e (g_rm 3 70) s m args below meth c H locs 0 0 Q (F0 m 32 ls []) := by
    intro x1 H locs ls hw hl h
    subst ek32_1
    dsimp only at h
    refine lv_iload_n hx hb dX9_addImage_32 rfl (lv_at hl 3 rfl) ?_
    refine lv_iload_n hx hb dX9_addImage_33 rfl (lv_at hl 2 rfl) ?_
    refine lv_isub hx hb dX9_addImage_34 ?_
    refine lv_iconst (v := 1) hx hb dX9_addImage_35 (by decide) ?_
    refine lv_iadd hx hb dX9_addImage_36 ?_
    refine lv_iload hx hb dX9_addImage_37 (lv_at hl 4 rfl) ?_
    refine lv_iconst (v := 1) hx hb dX9_addImage_39 (by decide) ?_
    refine lv_iadd hx hb dX9_addImage_40 ?_
    obtain ⟨x3, ex3, h⟩ := g_bd_nm h
    refine g_topi ex3 ?_
    obtain ⟨z4, h⟩ := g_nz_some h
    refine lv_idiv hx hb dX9_addImage_41 z4 ?_
    obtain ⟨x5, ex5, h⟩ := g_bd_nm h
    refine g_topi ex5 ?_
    refine lv_istore (lv' := [(5, .int x5), (0, .ref (a o)), (1, .ref (a1 o1)), (2, .int i1), (3, .int i2), (4, .int x1)]) hx hb dX9_addImage_42 hl (by decide) rfl (fun ls hl => ?_)
    refine lv_aload_n hx hb dX9_addImage_44 rfl (lv_at hl 2 rfl) ?_
    refine lv_iload hx hb dX9_addImage_45 (lv_at hl 5 rfl) ?_
    refine lv_iload hx hb dX9_addImage_47 (lv_at hl 0 rfl) ?_
    obtain ⟨r6, er6, h⟩ := g_cl_some h
    refine b_callV hx hb hml hown hT hK hA hw mk_X9_27 (c_X6_add l D g a1 o1 count widths heights groups rows x1 x5 r6 er6) [1] [0] rfl (by decide) 1 0 rfl rfl rfl rfl hl.1 [] rfl (Nat.le_of_ble_eq_true rfl) ⟨Nat.le_of_ble_eq_true rfl, Nat.le_of_ble_eq_true rfl⟩ ⟨Nat.zero_le _, Nat.zero_le _⟩ dX9_addImage_49 (wb' := [k_Text g a o length tcodes, k_Sheet g a1 o1 r6.2.1 r6.2.2.1 r6.2.2.2.1 r6.2.2.2.2.1 r6.2.2.2.2.2]) rfl (b_e1 rfl b_e0) 2 rfl (by decide) (st2 := [.int r6.1]) rfl (fun H locs hw => ?_)
    refine lv_istore (lv' := [(6, .int r6.1), (5, .int x5), (0, .ref (a o)), (1, .ref (a1 o1)), (2, .int i1), (3, .int i2), (4, .int x1)]) hx hb dX9_addImage_52 hl (by decide) rfl (fun ls hl => ?_)
    refine lv_iload_n hx hb dX9_addImage_54 rfl (lv_at hl 4 rfl) ?_
    refine lv_istore (lv' := [(7, .int i1), (6, .int r6.1), (5, .int x5), (0, .ref (a o)), (1, .ref (a1 o1)), (2, .int i1), (3, .int i2), (4, .int x1)]) hx hb dX9_addImage_55 hl (by decide) rfl (fun ls hl => ?_)
    have hL57 : ∀ (n : Nat) (x7 : Int32) (f8 : Nat → Int32) (H : Heap) (locs : List Loc) (ls : Array Slot), b_Wd D A s.heap H locs [k_Text g a o length tcodes, k_Sheet g a1 o1 r6.2.1 r6.2.2.1 r6.2.2.2.1 r6.2.2.2.2.1 f8] → lv_has ls 9 [(0, .ref (a o)), (1, .ref (a1 o1)), (2, .int i1), (3, .int i2), (4, .int x1), (6, .int r6.1), (7, .int x7)] → f_X9_addImage_L57 tcodes i1 i2 x1 r6 n x7 f8 = some u → W p l e (g_rm 3 70) s m args below meth c H locs 0 0 Q (F0 m 57 ls []) := by
      intro n
      induction n with
      | zero =>
        intro x7 f8 H locs ls hw hl h
        cases (show none = some u from h)
      | succ n ih57 =>
        intro x7 f8 H locs ls hw hl h
        rw [f_X9_addImage_L57] at h
        refine lv_iload hx hb dX9_addImage_57 (lv_at hl 6 rfl) ?_
        refine lv_iload_n hx hb dX9_addImage_59 rfl (lv_at hl 3 rfl) ?_
        refine lv_icmp_ge (tgt := 118) hx hb dX9_addImage_60 (by decide) (fun hc60 => ?_) (fun hc60 => ?_)
        · rw [if_pos hc60] at h
          obtain rfl := Option.some.inj h
          exact b_vret hQ hx hb hr hlk hw rfl dX9_addImage_118
        · rw [if_neg hc60] at h
          refine lv_aload_n hx hb dX9_addImage_63 rfl (lv_at hl 0 rfl) ?_
          refine b_get hx hb hT hK hown fl_X9_9 hw 0 0 rfl rfl (v := .ref (a (o+1))) rfl dX9_addImage_64 ?_
          refine lv_iload hx hb dX9_addImage_67 (lv_at hl 6 rfl) ?_
          obtain ⟨x9, ex9, hix9, h⟩ := g_rd_some h
          refine b_iald hx hb hK hw 0 1 rfl (f := tcodes) rfl hix9 ex9 dX9_addImage_69 ?_
          refine b_callS hx hb hml hown hT hK hA hw mk_X9_19 (c_X9_isDigit l D g x9) [] [0, 1] rfl (by decide) rfl hl.1 [] rfl (Nat.le_of_ble_eq_true rfl) ⟨Nat.le_of_ble_eq_true rfl, Nat.le_of_ble_eq_true rfl⟩ ⟨Nat.zero_le _, Nat.zero_le _⟩ dX9_addImage_70 (wb' := [k_Text g a o length tcodes, k_Sheet g a1 o1 r6.2.1 r6.2.2.1 r6.2.2.2.1 r6.2.2.2.2.1 f8]) rfl (b_e1 rfl (b_e1 rfl b_e0)) 2 rfl (by decide) (st2 := [.int (f_X9_isDigit x9)]) rfl (fun H locs hw => ?_)
          obtain ⟨j112_10, ej112_10, h⟩ := g_jn_nm h
          have hj112_10 : ∀ (f10 : Nat → Int32) (H : Heap) (locs : List Loc) (ls : Array Slot), b_Wd D A s.heap H locs [k_Text g a o length tcodes, k_Sheet g a1 o1 r6.2.1 r6.2.2.1 r6.2.2.2.1 r6.2.2.2.2.1 f10] → lv_has ls 9 [(0, .ref (a o)), (1, .ref (a1 o1)), (2, .int i1), (3, .int i2), (4, .int x1), (6, .int r6.1), (7, .int x7)] → j112_10 f10 = some u → W p l e (g_rm 3 70) s m args below meth c H locs 0 0 Q (F0 m 112 ls []) := by
            intro f10 H locs ls hw hl h
            subst ej112_10
            dsimp only at h
            obtain ⟨x12, ex12, h⟩ := g_bd_nm h
            refine lv_iinc (v := x12) (lv' := [(7, .int x12), (0, .ref (a o)), (1, .ref (a1 o1)), (2, .int i1), (3, .int i2), (4, .int x1), (6, .int r6.1)]) hx hb dX9_addImage_112 hl (k := 6) rfl (by rw [ex12]; rfl) (by decide) rfl (fun ls hl => ?_)
            refine lv_goto (tgt := 57) hx hb dX9_addImage_115 (by decide) ?_
            exact ih57 x12 f10 _ _ _ hw (lv_sub hl [1, 2, 3, 4, 5, 6, 0] rfl) h
          refine lv_if_eq (tgt := 112) hx hb dX9_addImage_73 (by decide) (fun hc73 => ?_) (fun hc73 => ?_)
          · rw [if_pos hc73] at h
            exact hj112_10 f8 _ _ _ hw (lv_sub hl [0, 1, 2, 3, 4, 5, 6] rfl) h
          · rw [if_neg hc73] at h
            refine lv_iload hx hb dX9_addImage_76 (lv_at hl 6 rfl) ?_
            refine lv_iload_n hx hb dX9_addImage_78 rfl (lv_at hl 2 rfl) ?_
            refine lv_isub hx hb dX9_addImage_79 ?_
            obtain ⟨x13, ex13, h⟩ := g_bd_nm h
            refine g_topi ex13 ?_
            refine lv_istore (lv' := [(8, .int x13), (0, .ref (a o)), (1, .ref (a1 o1)), (2, .int i1), (3, .int i2), (4, .int x1), (6, .int r6.1), (7, .int x7)]) hx hb dX9_addImage_80 hl (by decide) rfl (fun ls hl => ?_)
            refine lv_aload_n hx hb dX9_addImage_82 rfl (lv_at hl 2 rfl) ?_
            refine lv_iload hx hb dX9_addImage_83 (lv_at hl 6 rfl) ?_
            refine lv_iload hx hb dX9_addImage_85 (lv_at hl 0 rfl) ?_
            refine lv_iload hx hb dX9_addImage_87 (lv_at hl 5 rfl) ?_
            refine lv_iconst (v := 1) hx hb dX9_addImage_89 (by decide) ?_
            refine lv_iadd hx hb dX9_addImage_90 ?_
            obtain ⟨x14, ex14, h⟩ := g_bd_nm h
            refine g_topi ex14 ?_
            obtain ⟨z15, h⟩ := g_nz_some h
            refine g_irem hx hb dX9_addImage_91 z15 ?_
            refine lv_iload hx hb dX9_addImage_92 (lv_at hl 0 rfl) ?_
            refine lv_iload hx hb dX9_addImage_94 (lv_at hl 5 rfl) ?_
            refine lv_iconst (v := 1) hx hb dX9_addImage_96 (by decide) ?_
            refine lv_iadd hx hb dX9_addImage_97 ?_
            obtain ⟨x16, ex16, h⟩ := g_bd_nm h
            refine g_topi ex16 ?_
            obtain ⟨z17, h⟩ := g_nz_some h
            refine lv_idiv hx hb dX9_addImage_98 z17 ?_
            refine lv_aload_n hx hb dX9_addImage_99 rfl (lv_at hl 1 rfl) ?_
            refine b_get hx hb hT hK hown fl_X9_9 hw 0 0 rfl rfl (v := .ref (a (o+1))) rfl dX9_addImage_100 ?_
            refine lv_iload hx hb dX9_addImage_103 (lv_at hl 7 rfl) ?_
            obtain ⟨x18, ex18, hix18, h⟩ := g_rd_some h
            refine b_iald hx hb hK hw 0 1 rfl (f := tcodes) rfl hix18 ex18 dX9_addImage_105 ?_
            refine lv_bipush (v := 48) hx hb dX9_addImage_106 (by decide) ?_
            refine lv_isub hx hb dX9_addImage_108 ?_
            obtain ⟨r19, er19, h⟩ := g_cl_some h
            refine b_callV hx hb hml hown hT hK hA hw mk_X9_33 (c_X6_setColor l D g a1 o1 r6.2.1 r6.2.2.1 r6.2.2.2.1 r6.2.2.2.2.1 f8 r6.1 (g_rem x13 x14) (x13 / x16) (x18 - (48 : Int32)) r19 er19) [1] [0] rfl (by decide) 1 0 rfl rfl rfl rfl hl.1 [] rfl (Nat.le_of_ble_eq_true rfl) ⟨Nat.le_of_ble_eq_true rfl, Nat.le_of_ble_eq_true rfl⟩ ⟨Nat.zero_le _, Nat.zero_le _⟩ dX9_addImage_109 (wb' := [k_Text g a o length tcodes, k_Sheet g a1 o1 r6.2.1 r6.2.2.1 r6.2.2.2.1 r6.2.2.2.2.1 r19]) rfl (b_e1 rfl b_e0) 2 rfl (by decide) (st2 := []) rfl (fun H locs hw => ?_)
            exact hj112_10 r19 _ _ _ hw (lv_sub hl [1, 2, 3, 4, 5, 6, 7] rfl) h
    exact hL57 g_fuel i1 r6.2.2.2.2.2 _ _ _ hw (lv_sub hl [3, 4, 5, 6, 7, 1, 0] rfl) h
  have hL3 : ∀ (n : Nat) (x20 : Int32) (H : Heap) (locs : List Loc) (ls : Array Slot), b_Wd D A s.heap H locs [k_Text g a o length tcodes, k_Sheet g a1 o1 count widths heights groups rows] → lv_has ls 9 [(0, .ref (a o)), (1, .ref (a1 o1)), (2, .int i1), (3, .int i2), (4, .int x20)] → f_X9_addImage_L3 tcodes i1 i2 k32_1 n x20 = some u → W p l e (g_rm 3 70) s m args below meth c H locs 0 0 Q (F0 m 3 ls []) := by
    intro n
    induction n with
    | zero =>
      intro x20 H locs ls hw hl h
      cases (show none = some u from h)
    | succ n ih3 =>
      intro x20 H locs ls hw hl h
      rw [f_X9_addImage_L3] at h
      refine lv_iload_n hx hb dX9_addImage_3 rfl (lv_at hl 2 rfl) ?_
      refine lv_iload hx hb dX9_addImage_4 (lv_at hl 4 rfl) ?_
      refine lv_iadd hx hb dX9_addImage_6 ?_
      refine lv_iload_n hx hb dX9_addImage_7 rfl (lv_at hl 3 rfl) ?_
      refine lv_icmp_ge (tgt := 32) hx hb dX9_addImage_8 (by decide) (fun hc8 => ?_) (fun hc8 => ?_)
      · rw [if_pos hc8] at h
        exact hk32_1 x20 _ _ _ hw (lv_sub hl [0, 1, 2, 3, 4] rfl) h
      · rw [if_neg hc8] at h
        refine lv_aload_n hx hb dX9_addImage_11 rfl (lv_at hl 0 rfl) ?_
        refine b_get hx hb hT hK hown fl_X9_9 hw 0 0 rfl rfl (v := .ref (a (o+1))) rfl dX9_addImage_12 ?_
        refine lv_iload_n hx hb dX9_addImage_15 rfl (lv_at hl 2 rfl) ?_
        refine lv_iload hx hb dX9_addImage_16 (lv_at hl 4 rfl) ?_
        refine lv_iadd hx hb dX9_addImage_18 ?_
        obtain ⟨x21, ex21, hix21, h⟩ := g_rd_some h
        refine b_iald hx hb hK hw 0 1 rfl (f := tcodes) rfl hix21 ex21 dX9_addImage_19 ?_
        refine b_callS hx hb hml hown hT hK hA hw mk_X9_19 (c_X9_isDigit l D g x21) [] [0, 1] rfl (by decide) rfl hl.1 [] rfl (Nat.le_of_ble_eq_true rfl) ⟨Nat.le_of_ble_eq_true rfl, Nat.le_of_ble_eq_true rfl⟩ ⟨Nat.zero_le _, Nat.zero_le _⟩ dX9_addImage_20 (wb' := [k_Text g a o length tcodes, k_Sheet g a1 o1 count widths heights groups rows]) rfl (b_e1 rfl (b_e1 rfl b_e0)) 2 rfl (by decide) (st2 := [.int (f_X9_isDigit x21)]) rfl (fun H locs hw => ?_)
        refine lv_if_eq (tgt := 32) hx hb dX9_addImage_23 (by decide) (fun hc23 => ?_) (fun hc23 => ?_)
        · rw [if_pos hc23] at h
          exact hk32_1 x20 _ _ _ hw (lv_sub hl [0, 1, 2, 3, 4] rfl) h
        · rw [if_neg hc23] at h
          obtain ⟨x22, ex22, h⟩ := g_bd_nm h
          refine lv_iinc (v := x22) (lv' := [(4, .int x22), (0, .ref (a o)), (1, .ref (a1 o1)), (2, .int i1), (3, .int i2)]) hx hb dX9_addImage_26 hl (k := 4) rfl (by rw [ex22]; rfl) (by decide) rfl (fun ls hl => ?_)
          refine lv_goto (tgt := 3) hx hb dX9_addImage_29 (by decide) ?_
          exact ih3 x22 _ _ _ hw (lv_sub hl [1, 2, 3, 4, 0] rfl) h
  exact hL3 g_fuel (0 : Int32) _ _ _ hw (lv_sub hl [1, 2, 3, 4, 0] rfl) h
set_option maxRecDepth 100000 in
set_option maxHeartbeats 4000000 in
theorem c_X9_addImagesTo (l : Launch) (D : va_G) (g : Nat → ClassId) (a : Nat → Nat) (o : Nat) (a1 : Nat → Nat) (o1 : Nat) (length : Int32) (tcodes : (Nat → Int32)) (count : Int32) (widths : (Nat → Int32)) (heights : (Nat → Int32)) (groups : (Nat → Int32)) (rows : (Nat → Int32)) (u : Int32 × (Nat → Int32) × (Nat → Int32) × (Nat → Int32) × (Nat → Int32)) (h : f_X9_addImagesTo length tcodes count widths heights groups rows = some u) : b_Ct l yX9_addImagesTo cX9_addImagesTo 4 none 4 98 D g [.ref (a o), .ref (a1 o1)] [k_Text g a o length tcodes, k_Sheet g a1 o1 count widths heights groups rows] [k_Text g a o length tcodes, k_Sheet g a1 o1 u.1 u.2.1 u.2.2.1 u.2.2.2.1 u.2.2.2.2] none := by
  refine b_start RX9 (by decide) rfl (Nat.le_of_ble_eq_true rfl) rfl ?_
  intro p e s m args below meth c A ls Q hQ hx hb hr hlk hml hown hT hK hA hw hl
  have hl : lv_has ls 4 [(0, .ref (a o)), (1, .ref (a1 o1))] := hl
  unfold f_X9_addImagesTo at h
  refine lv_iconst (v := 0) hx hb dX9_addImagesTo_0 (by decide) ?_
  refine lv_istore_n (lv' := [(2, .int (0 : Int32)), (0, .ref (a o)), (1, .ref (a1 o1))]) hx hb dX9_addImagesTo_1 rfl hl (by decide) rfl (fun ls hl => ?_)
  refine lv_iconst (v := 0) hx hb dX9_addImagesTo_2 (by decide) ?_
  refine lv_istore_n (lv' := [(3, .int (0 : Int32)), (2, .int (0 : Int32)), (0, .ref (a o)), (1, .ref (a1 o1))]) hx hb dX9_addImagesTo_3 rfl hl (by decide) rfl (fun ls hl => ?_)
  have hL4 : ∀ (n : Nat) (x1 : Int32) (x2 : Int32) (x3 : Int32) (f4 : Nat → Int32) (f5 : Nat → Int32) (f6 : Nat → Int32) (f7 : Nat → Int32) (H : Heap) (locs : List Loc) (ls : Array Slot), b_Wd D A s.heap H locs [k_Text g a o length tcodes, k_Sheet g a1 o1 x3 f4 f5 f6 f7] → lv_has ls 4 [(0, .ref (a o)), (1, .ref (a1 o1)), (2, .int x1), (3, .int x2)] → f_X9_addImagesTo_L4 length tcodes n x1 x2 x3 f4 f5 f6 f7 = some u → W p l e (g_rm 4 98) s m args below meth c H locs 0 0 Q (F0 m 4 ls []) := by
    intro n
    induction n with
    | zero =>
      intro x1 x2 x3 f4 f5 f6 f7 H locs ls hw hl h
      cases (show none = some u from h)
    | succ n ih4 =>
      intro x1 x2 x3 f4 f5 f6 f7 H locs ls hw hl h
      rw [f_X9_addImagesTo_L4] at h
      refine lv_iload_n hx hb dX9_addImagesTo_4 rfl (lv_at hl 3 rfl) ?_
      refine lv_aload_n hx hb dX9_addImagesTo_5 rfl (lv_at hl 0 rfl) ?_
      refine b_get hx hb hT hK hown fl_X9_15 hw 0 0 rfl rfl (v := .int length) rfl dX9_addImagesTo_6 ?_
      refine lv_icmp_ge (tgt := 40) hx hb dX9_addImagesTo_9 (by decide) (fun hc9 => ?_) (fun hc9 => ?_)
      · rw [if_pos hc9] at h
        obtain rfl := Option.some.inj h
        exact b_vret hQ hx hb hr hlk hw rfl dX9_addImagesTo_40
      · rw [if_neg hc9] at h
        refine lv_aload_n hx hb dX9_addImagesTo_12 rfl (lv_at hl 0 rfl) ?_
        refine b_get hx hb hT hK hown fl_X9_9 hw 0 0 rfl rfl (v := .ref (a (o+1))) rfl dX9_addImagesTo_13 ?_
        refine lv_iload_n hx hb dX9_addImagesTo_16 rfl (lv_at hl 3 rfl) ?_
        obtain ⟨x8, ex8, hix8, h⟩ := g_rd_some h
        refine b_iald hx hb hK hw 0 1 rfl (f := tcodes) rfl hix8 ex8 dX9_addImagesTo_17 ?_
        refine lv_bipush (v := 59) hx hb dX9_addImagesTo_18 (by decide) ?_
        obtain ⟨j34_14, ej34_14, h⟩ := g_jn_nm h
        have hj34_14 : ∀ (x9 : Int32) (x10 : Int32) (f11 : Nat → Int32) (f12 : Nat → Int32) (f13 : Nat → Int32) (f14 : Nat → Int32) (H : Heap) (locs : List Loc) (ls : Array Slot), b_Wd D A s.heap H locs [k_Text g a o length tcodes, k_Sheet g a1 o1 x10 f11 f12 f13 f14] → lv_has ls 4 [(0, .ref (a o)), (1, .ref (a1 o1)), (2, .int x9), (3, .int x2)] → j34_14 x9 x10 f11 f12 f13 f14 = some u → W p l e (g_rm 4 98) s m args below meth c H locs 0 0 Q (F0 m 34 ls []) := by
          intro x9 x10 f11 f12 f13 f14 H locs ls hw hl h
          subst ej34_14
          dsimp only at h
          obtain ⟨x16, ex16, h⟩ := g_bd_nm h
          refine lv_iinc (v := x16) (lv' := [(3, .int x16), (0, .ref (a o)), (1, .ref (a1 o1)), (2, .int x9)]) hx hb dX9_addImagesTo_34 hl (k := 3) rfl (by rw [ex16]; rfl) (by decide) rfl (fun ls hl => ?_)
          refine lv_goto (tgt := 4) hx hb dX9_addImagesTo_37 (by decide) ?_
          exact ih4 x9 x16 x10 f11 f12 f13 f14 _ _ _ hw (lv_sub hl [1, 2, 3, 0] rfl) h
        refine lv_icmp_ne (tgt := 34) hx hb dX9_addImagesTo_20 (by decide) (fun hc20 => ?_) (fun hc20 => ?_)
        · rw [if_neg hc20] at h
          exact hj34_14 x1 x3 f4 f5 f6 f7 _ _ _ hw (lv_sub hl [0, 1, 2, 3] rfl) h
        · rw [if_pos hc20] at h
          refine lv_aload_n hx hb dX9_addImagesTo_23 rfl (lv_at hl 0 rfl) ?_
          refine lv_aload_n hx hb dX9_addImagesTo_24 rfl (lv_at hl 1 rfl) ?_
          refine lv_iload_n hx hb dX9_addImagesTo_25 rfl (lv_at hl 2 rfl) ?_
          refine lv_iload_n hx hb dX9_addImagesTo_26 rfl (lv_at hl 3 rfl) ?_
          obtain ⟨r17, er17, h⟩ := g_cl_some h
          refine b_callV hx hb hml hown hT hK hA hw mk_X9_23 (c_X9_addImage l D g a o a1 o1 length tcodes x3 f4 f5 f6 f7 x1 x2 r17 er17) [0, 1] [] rfl (by decide) 0 0 rfl rfl rfl rfl hl.1 [] rfl (Nat.le_of_ble_eq_true rfl) ⟨Nat.le_of_ble_eq_true rfl, Nat.le_of_ble_eq_true rfl⟩ ⟨Nat.zero_le _, Nat.zero_le _⟩ dX9_addImagesTo_27 (wb' := [k_Text g a o length tcodes, k_Sheet g a1 o1 r17.1 r17.2.1 r17.2.2.1 r17.2.2.2.1 r17.2.2.2.2]) rfl b_e0 2 rfl (by decide) (st2 := []) rfl (fun H locs hw => ?_)
          refine lv_iload_n hx hb dX9_addImagesTo_30 rfl (lv_at hl 3 rfl) ?_
          refine lv_iconst (v := 1) hx hb dX9_addImagesTo_31 (by decide) ?_
          refine lv_iadd hx hb dX9_addImagesTo_32 ?_
          obtain ⟨x18, ex18, h⟩ := g_bd_nm h
          refine g_topi ex18 ?_
          refine lv_istore_n (lv' := [(2, .int x18), (0, .ref (a o)), (1, .ref (a1 o1)), (3, .int x2)]) hx hb dX9_addImagesTo_33 rfl hl (by decide) rfl (fun ls hl => ?_)
          exact hj34_14 x18 r17.1 r17.2.1 r17.2.2.1 r17.2.2.2.1 r17.2.2.2.2 _ _ _ hw (lv_sub hl [1, 2, 0, 3] rfl) h
  exact hL4 g_fuel (0 : Int32) (0 : Int32) count widths heights groups rows _ _ _ hw (lv_sub hl [2, 3, 1, 0] rfl) h
