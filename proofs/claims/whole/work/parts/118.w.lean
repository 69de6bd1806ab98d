set_option maxRecDepth 100000 in
set_option maxHeartbeats 4000000 in
theorem c_X3_chooseOn (l : Launch) (D : va_G) (g : Nat → ClassId) (a : Nat → Nat) (o : Nat) (aS : Nat → Nat) (oS : Nat) (aC : Nat → Nat) (oC : Nat) (spW : Int32) (spH : Int32) (fr : (Nat → Int64)) (codes : (Nat → Int32)) (counts : (Nat → Int32)) (chFound : Int32) (chPage : Int32) (chCol : Int32) (chRow : Int32) (chTurned : Int32) (chFirst : Int32) (chSecond : Int32) (S : Nat → Nat → Int32) (lefts : (Nat → Int32)) (tops : (Nat → Int32)) (cwidths : (Nat → Int32)) (cheights : (Nat → Int32)) (originals : (Nat → Int32)) (orients : (Nat → Int32)) (i1 : Int32) (i2 : Int32) (u : Int32 × Int32 × Int32 × Int32 × Int32 × Int32 × Int32 × Int32) (h : f_X3_chooseOn codes counts chCol chRow chTurned chFirst chSecond S cwidths cheights i1 i2 = some u) : b_Ct l yX3_chooseOn cX3_chooseOn 4 (some .boolean) 4 96 D g [.ref (a o), .int i1, .int i2] [k_PkO g a o (aS oS) (aC oC), k_Space g a (o+1) spW spH fr codes counts, k_Choice g a (o+5) chFound chPage chCol chRow chTurned chFirst chSecond, k_StO g aS oS, k_Settings g aS (oS+6) (S 5 0) (S 5 1) (S 5 2) (S 5 3) (S 5 4) (S 5 5) (S 5 6) (S 5 7) (S 5 8) (S 5 9) (S 5 10) (S 5 11), k_Catalog g aC oC lefts tops cwidths cheights originals orients] [k_PkO g a o (aS oS) (aC oC), k_Space g a (o+1) spW spH fr codes counts, k_Choice g a (o+5) u.2.1 u.2.2.1 u.2.2.2.1 u.2.2.2.2.1 u.2.2.2.2.2.1 u.2.2.2.2.2.2.1 u.2.2.2.2.2.2.2, k_StO g aS oS, k_Settings g aS (oS+6) (S 5 0) (S 5 1) (S 5 2) (S 5 3) (S 5 4) (S 5 5) (S 5 6) (S 5 7) (S 5 8) (S 5 9) (S 5 10) (S 5 11), k_Catalog g aC oC lefts tops cwidths cheights originals orients] (some (.int u.1)) := by
  refine b_start RX3 (by decide) rfl (Nat.le_of_ble_eq_true rfl) rfl ?_
  intro p e s m args below meth c A ls Q hQ hx hb hr hlk hml hown hT hK hA hw hl
  have hl : lv_has ls 4 [(0, .ref (a o)), (1, .int i1), (2, .int i2)] := hl
  unfold f_X3_chooseOn at h
  refine lv_aload_n hx hb dX3_chooseOn_0 rfl (lv_at hl 0 rfl) ?_
  refine b_get hx hb hT hK hown fl_X3_21 hw 0 0 rfl rfl (v := .ref (a (o+5))) rfl dX3_chooseOn_1 ?_
  refine lv_iload_n hx hb dX3_chooseOn_4 rfl (lv_at hl 1 rfl) ?_
  obtain ⟨r1, er1, h⟩ := g_bd_nm h
  refine b_callV hx hb hml hown hT hK hA hw mk_X3_209 (c_X1_startOn l D g a (o+5) chFound chPage chCol chRow chTurned chFirst chSecond i1 r1 er1.symm) [2] [0, 1, 3, 4, 5] rfl (by decide) 2 0 rfl rfl rfl rfl hl.1 [] rfl (Nat.le_of_ble_eq_true rfl) ⟨Nat.le_of_ble_eq_true rfl, Nat.le_of_ble_eq_true rfl⟩ ⟨Nat.zero_le _, Nat.zero_le _⟩ dX3_chooseOn_5 (wb' := [k_PkO g a o (aS oS) (aC oC), k_Space g a (o+1) spW spH fr codes counts, k_Choice g a (o+5) r1.1 r1.2 chCol chRow chTurned chFirst chSecond, k_StO g aS oS, k_Settings g aS (oS+6) (S 5 0) (S 5 1) (S 5 2) (S 5 3) (S 5 4) (S 5 5) (S 5 6) (S 5 7) (S 5 8) (S 5 9) (S 5 10) (S 5 11), k_Catalog g aC oC lefts tops cwidths cheights originals orients]) rfl (b_e1 rfl (b_e1 rfl (b_e1 rfl (b_e1 rfl (b_e1 rfl b_e0))))) 6 rfl (by decide) (st2 := []) rfl (fun H locs hw => ?_)
  refine lv_iconst (v := 0) hx hb dX3_chooseOn_8 (by decide) ?_
  refine lv_istore_n (lv' := [(3, .int (0 : Int32)), (0, .ref (a o)), (1, .int i1), (2, .int i2)]) hx hb dX3_chooseOn_9 rfl hl (by decide) rfl (fun ls hl => ?_)
  obtain ⟨k43_7, ek43_7, h⟩ := g_jn_nm h
  have hk43_7 : ∀ (x2 : Int32) (x3 : Int32) (x4 : Int32) (x5 : Int32) (x6 : Int32) (x7 : Int32) (H : Heap) (locs : List Loc) (ls : Array Slot), b_Wd D A s.heap H locs [k_PkO g a o (aS oS) (aC oC), k_Space g a (o+1) spW spH fr codes counts, k_Choice g a (o+5) x2 r1.2 x3 x4 x5 x6 x7, k_StO g aS oS, k_Settings g aS (oS+6) (S 5 0) (S 5 1) (S 5 2) (S 5 3) (S 5 4) (S 5 5) (S 5 6) (S 5 7) (S 5 8) (S 5 9) (S 5 10) (S 5 11), k_Catalog g aC oC lefts tops cwidths cheights originals orients] → lv_has ls 4 [(0, .ref (a o))] → k43_7 x2 x3 x4 x5 x6 x7 = some u → W p l e (g_rm 4 96) s m args below meth c H locs 0 0 Q (F0 m 43 ls []) := by
    intro x2 x3 x4 x5 x6 x7 H locs ls hw hl h
    subst ek43_7
    dsimp only at h
    refine lv_aload_n hx hb dX3_chooseOn_43 rfl (lv_at hl 0 rfl) ?_
    refine b_get hx hb hT hK hown fl_X3_21 hw 0 0 rfl rfl (v := .ref (a (o+5))) rfl dX3_chooseOn_44 ?_
    refine b_get hx hb hT hK hown fl_X3_221 hw 2 0 rfl rfl (v := .int x2) rfl dX3_chooseOn_47 ?_
    obtain ⟨z9, h⟩ := g_z_some h
    obtain rfl := Option.some.inj h
    exact b_zret hQ hx hb hr hlk z9 hw rfl dX3_chooseOn_50
  have hL10 : ∀ (n : Nat) (x10 : Int32) (x11 : Int32) (x12 : Int32) (x13 : Int32) (x14 : Int32) (x15 : Int32) (x16 : Int32) (H : Heap) (locs : List Loc) (ls : Array Slot), b_Wd D A s.heap H locs [k_PkO g a o (aS oS) (aC oC), k_Space g a (o+1) spW spH fr codes counts, k_Choice g a (o+5) x11 r1.2 x12 x13 x14 x15 x16, k_StO g aS oS, k_Settings g aS (oS+6) (S 5 0) (S 5 1) (S 5 2) (S 5 3) (S 5 4) (S 5 5) (S 5 6) (S 5 7) (S 5 8) (S 5 9) (S 5 10) (S 5 11), k_Catalog g aC oC lefts tops cwidths cheights originals orients] → lv_has ls 4 [(0, .ref (a o)), (1, .int i1), (2, .int i2), (3, .int x10)] → f_X3_chooseOn_L10 codes counts S cwidths cheights i1 i2 k43_7 n x10 x11 x12 x13 x14 x15 x16 = some u → W p l e (g_rm 4 96) s m args below meth c H locs 0 0 Q (F0 m 10 ls []) := by
    intro n
    induction n with
    | zero =>
      intro x10 x11 x12 x13 x14 x15 x16 H locs ls hw hl h
      cases (show none = some u from h)
    | succ n ih10 =>
      intro x10 x11 x12 x13 x14 x15 x16 H locs ls hw hl h
      rw [f_X3_chooseOn_L10] at h
      refine lv_iload_n hx hb dX3_chooseOn_10 rfl (lv_at hl 3 rfl) ?_
      refine lv_aload_n hx hb dX3_chooseOn_11 rfl (lv_at hl 0 rfl) ?_
      refine b_get hx hb hT hK hown fl_X3_12 hw 0 0 rfl rfl (v := .ref (a (o+1))) rfl dX3_chooseOn_12 ?_
      refine b_get hx hb hT hK hown fl_X3_212 hw 1 0 rfl rfl (v := .ref (a (o+4))) rfl dX3_chooseOn_15 ?_
      refine lv_iload_n hx hb dX3_chooseOn_18 rfl (lv_at hl 1 rfl) ?_
      obtain ⟨x17, ex17, hix17, h⟩ := g_rd_some h
      refine b_iald hx hb hK hw 1 3 rfl (f := counts) rfl hix17 ex17 dX3_chooseOn_19 ?_
      refine lv_icmp_ge (tgt := 43) hx hb dX3_chooseOn_20 (by decide) (fun hc20 => ?_) (fun hc20 => ?_)
      · rw [if_pos hc20] at h
        exact hk43_7 x11 x12 x13 x14 x15 x16 _ _ _ hw (lv_sub hl [0] rfl) h
      · rw [if_neg hc20] at h
        refine lv_aload_n hx hb dX3_chooseOn_23 rfl (lv_at hl 0 rfl) ?_
        refine lv_aload_n hx hb dX3_chooseOn_24 rfl (lv_at hl 0 rfl) ?_
        refine b_get hx hb hT hK hown fl_X3_12 hw 0 0 rfl rfl (v := .ref (a (o+1))) rfl dX3_chooseOn_25 ?_
        refine lv_iload_n hx hb dX3_chooseOn_28 rfl (lv_at hl 1 rfl) ?_
        refine lv_iload_n hx hb dX3_chooseOn_29 rfl (lv_at hl 3 rfl) ?_
        obtain ⟨r18, er18, h⟩ := g_cl_some h
        refine b_callV hx hb hml hown hT hK hA hw mk_X3_215 (c_X7_codeOf l D g a (o+1) spW spH fr codes counts i1 x10 r18 er18) [1] [0, 2, 3, 4, 5] rfl (by decide) 1 0 rfl rfl rfl rfl hl.1 [.ref (a o)] rfl (Nat.le_of_ble_eq_true rfl) ⟨Nat.le_of_ble_eq_true rfl, Nat.le_of_ble_eq_true rfl⟩ ⟨Nat.zero_le _, Nat.zero_le _⟩ dX3_chooseOn_30 (wb' := [k_PkO g a o (aS oS) (aC oC), k_Space g a (o+1) spW spH fr codes counts, k_Choice g a (o+5) x11 r1.2 x12 x13 x14 x15 x16, k_StO g aS oS, k_Settings g aS (oS+6) (S 5 0) (S 5 1) (S 5 2) (S 5 3) (S 5 4) (S 5 5) (S 5 6) (S 5 7) (S 5 8) (S 5 9) (S 5 10) (S 5 11), k_Catalog g aC oC lefts tops cwidths cheights originals orients]) rfl (b_e1 rfl (b_e1 rfl (b_e1 rfl (b_e1 rfl (b_e1 rfl b_e0))))) 6 rfl (by decide) (st2 := [.int r18, .ref (a o)]) rfl (fun H locs hw => ?_)
        refine lv_iload_n hx hb dX3_chooseOn_33 rfl (lv_at hl 2 rfl) ?_
        obtain ⟨r19, er19, h⟩ := g_cl_some h
        refine b_callV hx hb hml hown hT hK hA hw mk_X3_218 (c_X3_offerBoth l D g a o aS oS aC oC x11 r1.2 x12 x13 x14 x15 x16 S lefts tops cwidths cheights originals orients r18 i2 r19 er19) [0, 2, 3, 4, 5] [1] rfl (by decide) 0 0 rfl rfl rfl rfl hl.1 [] rfl (Nat.le_of_ble_eq_true rfl) ⟨Nat.le_of_ble_eq_true rfl, Nat.le_of_ble_eq_true rfl⟩ ⟨Nat.zero_le _, Nat.zero_le _⟩ dX3_chooseOn_34 (wb' := [k_PkO g a o (aS oS) (aC oC), k_Space g a (o+1) spW spH fr codes counts, k_Choice g a (o+5) r19.1 r1.2 r19.2.1 r19.2.2.1 r19.2.2.2.1 r19.2.2.2.2.1 r19.2.2.2.2.2, k_StO g aS oS, k_Settings g aS (oS+6) (S 5 0) (S 5 1) (S 5 2) (S 5 3) (S 5 4) (S 5 5) (S 5 6) (S 5 7) (S 5 8) (S 5 9) (S 5 10) (S 5 11), k_Catalog g aC oC lefts tops cwidths cheights originals orients]) rfl (b_e1 rfl b_e0) 6 rfl (by decide) (st2 := []) rfl (fun H locs hw => ?_)
        obtain ⟨x20, ex20, h⟩ := g_bd_nm h
        refine lv_iinc (v := x20) (lv' := [(3, .int x20), (0, .ref (a o)), (1, .int i1), (2, .int i2)]) hx hb dX3_chooseOn_37 hl (k := 3) rfl (by rw [ex20]; rfl) (by decide) rfl (fun ls hl => ?_)
        refine lv_goto (tgt := 10) hx hb dX3_chooseOn_40 (by decide) ?_
        exact ih10 x20 r19.1 r19.2.1 r19.2.2.1 r19.2.2.2.1 r19.2.2.2.2.1 r19.2.2.2.2.2 _ _ _ hw (lv_sub hl [1, 2, 3, 0] rfl) h
  exact hL10 g_fuel (0 : Int32) r1.1 chCol chRow chTurned chFirst chSecond _ _ _ hw (lv_sub hl [1, 2, 3, 0] rfl) h
set_option maxRecDepth 100000 in
set_option maxHeartbeats 4000000 in
theorem c_X5_fieldWidth (l : Launch) (D : va_G) (g : Nat → ClassId) (a : Nat → Nat) (o : Nat) (pageWidth : Int32) (pageHeight : Int32) (pageLimit : Int32) (padding : Int32) (border : Int32) (extrusion : Int32) (trimming : Int32) (matching : Int32) (rotation : Int32) (grouped : Int32) (order : Int32) (way : Int32) : b_Ct l yX5_fieldWidth cX5_fieldWidth 1 (some .int) 0 0 D g [.ref (a o)] [k_Settings g a o pageWidth pageHeight pageLimit padding border extrusion trimming matching rotation grouped order way] [k_Settings g a o pageWidth pageHeight pageLimit padding border extrusion trimming matching rotation grouped order way] (some (.int (f_X5_fieldWidth pageWidth padding border))) := by
  refine b_start RX5 (by decide) rfl (Nat.le_of_ble_eq_true rfl) rfl ?_
  intro p e s m args below meth c A ls Q hQ hx hb hr hlk hml hown hT hK hA hw hl
  have hl : lv_has ls 1 [(0, .ref (a o))] := hl
  generalize h : f_X5_fieldWidth pageWidth padding border = u at hQ
  unfold f_X5_fieldWidth at h
  refine lv_aload_n hx hb dX5_fieldWidth_0 rfl (lv_at hl 0 rfl) ?_
  refine b_get hx hb hT hK hown fl_X5_9 hw 0 0 rfl rfl (v := .int pageWidth) rfl dX5_fieldWidth_1 ?_
  refine lv_iconst (v := 2) hx hb dX5_fieldWidth_4 (by decide) ?_
  refine lv_aload_n hx hb dX5_fieldWidth_5 rfl (lv_at hl 0 rfl) ?_
  refine b_get hx hb hT hK hown fl_X5_34 hw 0 0 rfl rfl (v := .int border) rfl dX5_fieldWidth_6 ?_
  refine lv_imul hx hb dX5_fieldWidth_9 ?_
  refine lv_isub hx hb dX5_fieldWidth_10 ?_
  refine lv_aload_n hx hb dX5_fieldWidth_11 rfl (lv_at hl 0 rfl) ?_
  refine b_get hx hb hT hK hown fl_X5_37 hw 0 0 rfl rfl (v := .int padding) rfl dX5_fieldWidth_12 ?_
  refine lv_iadd hx hb dX5_fieldWidth_15 ?_
  obtain rfl := h
  exact b_iret hQ hx hb hr hlk hw rfl dX5_fieldWidth_16
set_option maxRecDepth 100000 in
set_option maxHeartbeats 4000000 in
theorem c_X5_fieldHeight (l : Launch) (D : va_G) (g : Nat → ClassId) (a : Nat → Nat) (o : Nat) (pageWidth : Int32) (pageHeight : Int32) (pageLimit : Int32) (padding : Int32) (border : Int32) (extrusion : Int32) (trimming : Int32) (matching : Int32) (rotation : Int32) (grouped : Int32) (order : Int32) (way : Int32) : b_Ct l yX5_fieldHeight cX5_fieldHeight 1 (some .int) 0 0 D g [.ref (a o)] [k_Settings g a o pageWidth pageHeight pageLimit padding border extrusion trimming matching rotation grouped order way] [k_Settings g a o pageWidth pageHeight pageLimit padding border extrusion trimming matching rotation grouped order way] (some (.int (f_X5_fieldHeight pageHeight padding border))) := by
  refine b_start RX5 (by decide) rfl (Nat.le_of_ble_eq_true rfl) rfl ?_
  intro p e s m args below meth c A ls Q hQ hx hb hr hlk hml hown hT hK hA hw hl
  have hl : lv_has ls 1 [(0, .ref (a o))] := hl
  generalize h : f_X5_fieldHeight pageHeight padding border = u at hQ
  unfold f_X5_fieldHeight at h
  refine lv_aload_n hx hb dX5_fieldHeight_0 rfl (lv_at hl 0 rfl) ?_
  refine b_get hx hb hT hK hown fl_X5_15 hw 0 0 rfl rfl (v := .int pageHeight) rfl dX5_fieldHeight_1 ?_
  refine lv_iconst (v := 2) hx hb dX5_fieldHeight_4 (by decide) ?_
  refine lv_aload_n hx hb dX5_fieldHeight_5 rfl (lv_at hl 0 rfl) ?_
  refine b_get hx hb hT hK hown fl_X5_34 hw 0 0 rfl rfl (v := .int border) rfl dX5_fieldHeight_6 ?_
  refine lv_imul hx hb dX5_fieldHeight_9 ?_
  refine lv_isub hx hb dX5_fieldHeight_10 ?_
  refine lv_aload_n hx hb dX5_fieldHeight_11 rfl (lv_at hl 0 rfl) ?_
  refine b_get hx hb hT hK hown fl_X5_37 hw 0 0 rfl rfl (v := .int padding) rfl dX5_fieldHeight_12 ?_
  refine lv_iadd hx hb dX5_fieldHeight_15 ?_
  obtain rfl := h
  exact b_iret hQ hx hb hr hlk hw rfl dX5_fieldHeight_16
set_option maxRecDepth 100000 in
set_option maxHeartbeats 4000000 in
theorem c_X5_fieldPositions (l : Launch) (D : va_G) (g : Nat → ClassId) (a : Nat → Nat) (o : Nat) (pageWidth : Int32) (pageHeight : Int32) (pageLimit : Int32) (padding : Int32) (border : Int32) (extrusion : Int32) (trimming : Int32) (matching : Int32) (rotation : Int32) (grouped : Int32) (order : Int32) (way : Int32) : b_Ct l yX5_fieldPositions cX5_fieldPositions 1 (some .int) 1 20 D g [.ref (a o)] [k_Settings g a o pageWidth pageHeight pageLimit padding border extrusion trimming matching rotation grouped order way] [k_Settings g a o pageWidth pageHeight pageLimit padding border extrusion trimming matching rotation grouped order way] (some (.int (f_X5_fieldPositions pageWidth pageHeight padding border))) := by
  refine b_start RX5 (by decide) rfl (Nat.le_of_ble_eq_true rfl) rfl ?_
  intro p e s m args below meth c A ls Q hQ hx hb hr hlk hml hown hT hK hA hw hl
  have hl : lv_has ls 1 [(0, .ref (a o))] := hl
  generalize h : f_X5_fieldPositions pageWidth pageHeight padding border = u at hQ
  unfold f_X5_fieldPositions at h
  refine lv_aload_n hx hb dX5_fieldPositions_0 rfl (lv_at hl 0 rfl) ?_
  refine b_callV hx hb hml hown hT hK hA hw mk_X5_40 (c_X5_fieldWidth l D g a o pageWidth pageHeight pageLimit padding border extrusion trimming matching rotation grouped order way) [0] [] rfl (by decide) 0 0 rfl rfl rfl rfl hl.1 [] rfl (Nat.le_of_ble_eq_true rfl) ⟨Nat.le_of_ble_eq_true rfl, Nat.le_of_ble_eq_true rfl⟩ ⟨Nat.zero_le _, Nat.zero_le _⟩ dX5_fieldPositions_1 (wb' := [k_Settings g a o pageWidth pageHeight pageLimit padding border extrusion trimming matching rotation grouped order way]) rfl b_e0 1 rfl (by decide) (st2 := [.int (f_X5_fieldWidth pageWidth padding border)]) rfl (fun H locs hw => ?_)
  refine lv_iconst (v := 0) hx hb dX5_fieldPositions_4 (by decide) ?_
  refine g_mmax hx hb hml hl.1 hown hT mm_X5_44 (Nat.le_of_ble_eq_true rfl) (Nat.le_of_ble_eq_true rfl) (Nat.zero_le _) (Nat.zero_le _) dX5_fieldPositions_5 ?_
  refine lv_aload_n hx hb dX5_fieldPositions_8 rfl (lv_at hl 0 rfl) ?_
  refine b_callV hx hb hml hown hT hK hA hw mk_X5_50 (c_X5_fieldHeight l D g a o pageWidth pageHeight pageLimit padding border extrusion trimming matching rotation grouped order way) [0] [] rfl (by decide) 0 0 rfl rfl rfl rfl hl.1 [.int (g_max (f_X5_fieldWidth pageWidth padding border) (0 : Int32))] rfl (Nat.le_of_ble_eq_true rfl) ⟨Nat.le_of_ble_eq_true rfl, Nat.le_of_ble_eq_true rfl⟩ ⟨Nat.zero_le _, Nat.zero_le _⟩ dX5_fieldPositions_9 (wb' := [k_Settings g a o pageWidth pageHeight pageLimit padding border extrusion trimming matching rotation grouped order way]) rfl b_e0 1 rfl (by decide) (st2 := [.int (f_X5_fieldHeight pageHeight padding border), .int (g_max (f_X5_fieldWidth pageWidth padding border) (0 : Int32))]) rfl (fun H locs hw => ?_)
  refine lv_iconst (v := 0) hx hb dX5_fieldPositions_12 (by decide) ?_
  refine g_mmax hx hb hml hl.1 hown hT mm_X5_44 (Nat.le_of_ble_eq_true rfl) (Nat.le_of_ble_eq_true rfl) (Nat.zero_le _) (Nat.zero_le _) dX5_fieldPositions_13 ?_
  refine lv_imul hx hb dX5_fieldPositions_16 ?_
  obtain rfl := h
  exact b_iret hQ hx hb hr hlk hw rfl dX5_fieldPositions_17
set_option maxRecDepth 100000 in
set_option maxHeartbeats 4000000 in
theorem c_X7_code (l : Launch) (D : va_G) (g : Nat → ClassId) (i1 : Int32) (i2 : Int32) (i3 : Int32) (i4 : Int32) : b_Ct l yX7_code cX7_code 4 (some .int) 0 0 D g [.int i1, .int i2, .int i3, .int i4] ([] : List va_W) ([] : List va_W) (some (.int (f_X7_code i1 i2 i3 i4))) := by
  refine b_start RX7 (by decide) rfl (Nat.le_of_ble_eq_true rfl) rfl ?_
  intro p e s m args below meth c A ls Q hQ hx hb hr hlk hml hown hT hK hA hw hl
  have hl : lv_has ls 4 [(0, .int i1), (1, .int i2), (2, .int i3), (3, .int i4)] := hl
  generalize h : f_X7_code i1 i2 i3 i4 = u at hQ
  unfold f_X7_code at h
  refine lv_iload_n hx hb dX7_code_0 rfl (lv_at hl 1 rfl) ?_
  refine lv_bipush (v := 18) hx hb dX7_code_1 (by decide) ?_
  refine g_ishl hx hb dX7_code_3 ?_
  refine lv_iload_n hx hb dX7_code_4 rfl (lv_at hl 0 rfl) ?_
  refine lv_bipush (v := 12) hx hb dX7_code_5 (by decide) ?_
  refine g_ishl hx hb dX7_code_7 ?_
  refine lv_ior hx hb dX7_code_8 ?_
  refine lv_iload_n hx hb dX7_code_9 rfl (lv_at hl 2 rfl) ?_
  refine lv_bipush (v := 6) hx hb dX7_code_10 (by decide) ?_
  refine g_ishl hx hb dX7_code_12 ?_
  refine lv_ior hx hb dX7_code_13 ?_
  refine lv_iload_n hx hb dX7_code_14 rfl (lv_at hl 3 rfl) ?_
  refine lv_ior hx hb dX7_code_15 ?_
  obtain rfl := h
  exact b_iret hQ hx hb hr hlk hw rfl dX7_code_16
set_option maxRecDepth 100000 in
set_option maxHeartbeats 4000000 in
theorem c_X3_chooseOnNewPage (l : Launch) (D : va_G) (g : Nat → ClassId) (a : Nat → Nat) (o : Nat) (aS : Nat → Nat) (oS : Nat) (aC : Nat → Nat) (oC : Nat) (chFound : Int32) (chPage : Int32) (chCol : Int32) (chRow : Int32) (chTurned : Int32) (chFirst : Int32) (chSecond : Int32) (S : Nat → Nat → Int32) (lefts : (Nat → Int32)) (tops : (Nat → Int32)) (cwidths : (Nat → Int32)) (cheights : (Nat → Int32)) (originals : (Nat → Int32)) (orients : (Nat → Int32)) (i1 : Int32) (u : Int32 × Int32 × Int32 × Int32 × Int32 × Int32 × Int32 × Int32) (h : f_X3_chooseOnNewPage chCol chRow chTurned chFirst chSecond S cwidths cheights i1 = some u) : b_Ct l yX3_chooseOnNewPage cX3_chooseOnNewPage 2 (some .boolean) 4 96 D g [.ref (a o), .int i1] [k_PkO g a o (aS oS) (aC oC), k_Choice g a (o+5) chFound chPage chCol chRow chTurned chFirst chSecond, k_StO g aS oS, k_Settings g aS (oS+6) (S 5 0) (S 5 1) (S 5 2) (S 5 3) (S 5 4) (S 5 5) (S 5 6) (S 5 7) (S 5 8) (S 5 9) (S 5 10) (S 5 11), k_Places g aS (oS+7) (S 6 0) (S 7) (S 8) (S 9) (S 10) (S 11), k_Catalog g aC oC lefts tops cwidths cheights originals orients] [k_PkO g a o (aS oS) (aC oC), k_Choice g a (o+5) u.2.1 u.2.2.1 u.2.2.2.1 u.2.2.2.2.1 u.2.2.2.2.2.1 u.2.2.2.2.2.2.1 u.2.2.2.2.2.2.2, k_StO g aS oS, k_Settings g aS (oS+6) (S 5 0) (S 5 1) (S 5 2) (S 5 3) (S 5 4) (S 5 5) (S 5 6) (S 5 7) (S 5 8) (S 5 9) (S 5 10) (S 5 11), k_Places g aS (oS+7) (S 6 0) (S 7) (S 8) (S 9) (S 10) (S 11), k_Catalog g aC oC lefts tops cwidths cheights originals orients] (some (.int u.1)) := by
  refine b_start RX3 (by decide) rfl (Nat.le_of_ble_eq_true rfl) rfl ?_
  intro p e s m args below meth c A ls Q hQ hx hb hr hlk hml hown hT hK hA hw hl
  have hl : lv_has ls 2 [(0, .ref (a o)), (1, .int i1)] := hl
  unfold f_X3_chooseOnNewPage at h
  refine lv_aload_n hx hb dX3_chooseOnNewPage_0 rfl (lv_at hl 0 rfl) ?_
  refine b_get hx hb hT hK hown fl_X3_21 hw 0 0 rfl rfl (v := .ref (a (o+5))) rfl dX3_chooseOnNewPage_1 ?_
  refine lv_aload_n hx hb dX3_chooseOnNewPage_4 rfl (lv_at hl 0 rfl) ?_
  refine b_get hx hb hT hK hown fl_X3_29 hw 0 0 rfl rfl (v := .ref (aS oS)) rfl dX3_chooseOnNewPage_5 ?_
  refine b_get hx hb hT hK hown fl_X3_37 hw 2 0 rfl rfl (v := .ref (aS (oS+7))) rfl dX3_chooseOnNewPage_8 ?_
  refine b_get hx hb hT hK hown fl_X3_60 hw 4 0 rfl rfl (v := .int (S 6 0)) rfl dX3_chooseOnNewPage_11 ?_
  obtain ⟨r1, er1, h⟩ := g_bd_nm h
  refine b_callV hx hb hml hown hT hK hA hw mk_X3_209 (c_X1_startOn l D g a (o+5) chFound chPage chCol chRow chTurned chFirst chSecond (S 6 0) r1 er1.symm) [1] [0, 2, 3, 4, 5] rfl (by decide) 1 0 rfl rfl rfl rfl hl.1 [] rfl (Nat.le_of_ble_eq_true rfl) ⟨Nat.le_of_ble_eq_true rfl, Nat.le_of_ble_eq_true rfl⟩ ⟨Nat.zero_le _, Nat.zero_le _⟩ dX3_chooseOnNewPage_14 (wb' := [k_PkO g a o (aS oS) (aC oC), k_Choice g a (o+5) r1.1 r1.2 chCol chRow chTurned chFirst chSecond, k_StO g aS oS, k_Settings g aS (oS+6) (S 5 0) (S 5 1) (S 5 2) (S 5 3) (S 5 4) (S 5 5) (S 5 6) (S 5 7) (S 5 8) (S 5 9) (S 5 10) (S 5 11), k_Places g aS (oS+7) (S 6 0) (S 7) (S 8) (S 9) (S 10) (S 11), k_Catalog g aC oC lefts tops cwidths cheights originals orients]) rfl (b_e1 rfl (b_e1 rfl (b_e1 rfl (b_e1 rfl (b_e1 rfl b_e0))))) 6 rfl (by decide) (st2 := []) rfl (fun H locs hw => ?_)
  refine lv_aload_n hx hb dX3_chooseOnNewPage_17 rfl (lv_at hl 0 rfl) ?_
  refine b_get hx hb hT hK hown fl_X3_29 hw 0 0 rfl rfl (v := .ref (aS oS)) rfl dX3_chooseOnNewPage_18 ?_
  refine b_get hx hb hT hK hown fl_X3_71 hw 2 0 rfl rfl (v := .ref (aS (oS+6))) rfl dX3_chooseOnNewPage_21 ?_
  refine b_callV hx hb hml hown hT hK hA hw mk_X3_224 (c_X5_fieldPositions l D g aS (oS+6) (S 5 0) (S 5 1) (S 5 2) (S 5 3) (S 5 4) (S 5 5) (S 5 6) (S 5 7) (S 5 8) (S 5 9) (S 5 10) (S 5 11)) [3] [0, 1, 2, 4, 5] rfl (by decide) 3 0 rfl rfl rfl rfl hl.1 [] rfl (Nat.le_of_ble_eq_true rfl) ⟨Nat.le_of_ble_eq_true rfl, Nat.le_of_ble_eq_true rfl⟩ ⟨Nat.zero_le _, Nat.zero_le _⟩ dX3_chooseOnNewPage_24 (wb' := [k_PkO g a o (aS oS) (aC oC), k_Choice g a (o+5) r1.1 r1.2 chCol chRow chTurned chFirst chSecond, k_StO g aS oS, k_Settings g aS (oS+6) (S 5 0) (S 5 1) (S 5 2) (S 5 3) (S 5 4) (S 5 5) (S 5 6) (S 5 7) (S 5 8) (S 5 9) (S 5 10) (S 5 11), k_Places g aS (oS+7) (S 6 0) (S 7) (S 8) (S 9) (S 10) (S 11), k_Catalog g aC oC lefts tops cwidths cheights originals orients]) rfl (b_e1 rfl (b_e1 rfl (b_e1 rfl (b_e1 rfl (b_e1 rfl b_e0))))) 6 rfl (by decide) (st2 := [.int (f_X5_fieldPositions (S 5 0) (S 5 1) (S 5 3) (S 5 4))]) rfl (fun H locs hw => ?_)
  obtain ⟨j60_7, ej60_7, h⟩ := g_jn_nm h
  have hj60_7 : ∀ (x2 : Int32) (x3 : Int32) (x4 : Int32) (x5 : Int32) (x6 : Int32) (x7 : Int32) (H : Heap) (locs : List Loc) (ls : Array Slot), b_Wd D A s.heap H locs [k_PkO g a o (aS oS) (aC oC), k_Choice g a (o+5) x2 r1.2 x3 x4 x5 x6 x7, k_StO g aS oS, k_Settings g aS (oS+6) (S 5 0) (S 5 1) (S 5 2) (S 5 3) (S 5 4) (S 5 5) (S 5 6) (S 5 7) (S 5 8) (S 5 9) (S 5 10) (S 5 11), k_Places g aS (oS+7) (S 6 0) (S 7) (S 8) (S 9) (S 10) (S 11), k_Catalog g aC oC lefts tops cwidths cheights originals orients] → lv_has ls 2 [(0, .ref (a o))] → j60_7 x2 x3 x4 x5 x6 x7 = some u → W p l e (g_rm 4 96) s m args below meth c H locs 0 0 Q (F0 m 60 ls []) := by
    intro x2 x3 x4 x5 x6 x7 H locs ls hw hl h
    subst ej60_7
    dsimp only at h
    refine lv_aload_n hx hb dX3_chooseOnNewPage_60 rfl (lv_at hl 0 rfl) ?_
    refine b_get hx hb hT hK hown fl_X3_21 hw 0 0 rfl rfl (v := .ref (a (o+5))) rfl dX3_chooseOnNewPage_61 ?_
    refine b_get hx hb hT hK hown fl_X3_221 hw 1 0 rfl rfl (v := .int x2) rfl dX3_chooseOnNewPage_64 ?_
    obtain ⟨z9, h⟩ := g_z_some h
    obtain rfl := Option.some.inj h
    exact b_zret hQ hx hb hr hlk z9 hw rfl dX3_chooseOnNewPage_67
  refine lv_if_le (tgt := 60) hx hb dX3_chooseOnNewPage_27 (by decide) (fun hc27 => ?_) (fun hc27 => ?_)
  · rw [if_pos hc27] at h
    exact hj60_7 r1.1 chCol chRow chTurned chFirst chSecond _ _ _ hw (lv_sub hl [0] rfl) h
  · rw [if_neg hc27] at h
    refine lv_aload_n hx hb dX3_chooseOnNewPage_30 rfl (lv_at hl 0 rfl) ?_
    refine lv_iconst (v := 0) hx hb dX3_chooseOnNewPage_31 (by decide) ?_
    refine lv_iconst (v := 0) hx hb dX3_chooseOnNewPage_32 (by decide) ?_
    refine lv_aload_n hx hb dX3_chooseOnNewPage_33 rfl (lv_at hl 0 rfl) ?_
    refine b_get hx hb hT hK hown fl_X3_29 hw 0 0 rfl rfl (v := .ref (aS oS)) rfl dX3_chooseOnNewPage_34 ?_
    refine b_get hx hb hT hK hown fl_X3_71 hw 2 0 rfl rfl (v := .ref (aS (oS+6))) rfl dX3_chooseOnNewPage_37 ?_
    refine b_callV hx hb hml hown hT hK hA hw mk_X3_132 (c_X5_fieldWidth l D g aS (oS+6) (S 5 0) (S 5 1) (S 5 2) (S 5 3) (S 5 4) (S 5 5) (S 5 6) (S 5 7) (S 5 8) (S 5 9) (S 5 10) (S 5 11)) [3] [0, 1, 2, 4, 5] rfl (by decide) 3 0 rfl rfl rfl rfl hl.1 [.int (0 : Int32), .int (0 : Int32), .ref (a o)] rfl (Nat.le_of_ble_eq_true rfl) ⟨Nat.le_of_ble_eq_true rfl, Nat.le_of_ble_eq_true rfl⟩ ⟨Nat.zero_le _, Nat.zero_le _⟩ dX3_chooseOnNewPage_40 (wb' := [k_PkO g a o (aS oS) (aC oC), k_Choice g a (o+5) r1.1 r1.2 chCol chRow chTurned chFirst chSecond, k_StO g aS oS, k_Settings g aS (oS+6) (S 5 0) (S 5 1) (S 5 2) (S 5 3) (S 5 4) (S 5 5) (S 5 6) (S 5 7) (S 5 8) (S 5 9) (S 5 10) (S 5 11), k_Places g aS (oS+7) (S 6 0) (S 7) (S 8) (S 9) (S 10) (S 11), k_Catalog g aC oC lefts tops cwidths cheights originals orients]) rfl (b_e1 rfl (b_e1 rfl (b_e1 rfl (b_e1 rfl (b_e1 rfl b_e0))))) 6 rfl (by decide) (st2 := [.int (f_X5_fieldWidth (S 5 0) (S 5 3) (S 5 4)), .int (0 : Int32), .int (0 : Int32), .ref (a o)]) rfl (fun H locs hw => ?_)
    refine lv_aload_n hx hb dX3_chooseOnNewPage_43 rfl (lv_at hl 0 rfl) ?_
    refine b_get hx hb hT hK hown fl_X3_29 hw 0 0 rfl rfl (v := .ref (aS oS)) rfl dX3_chooseOnNewPage_44 ?_
    refine b_get hx hb hT hK hown fl_X3_71 hw 2 0 rfl rfl (v := .ref (aS (oS+6))) rfl dX3_chooseOnNewPage_47 ?_
    refine b_callV hx hb hml hown hT hK hA hw mk_X3_135 (c_X5_fieldHeight l D g aS (oS+6) (S 5 0) (S 5 1) (S 5 2) (S 5 3) (S 5 4) (S 5 5) (S 5 6) (S 5 7) (S 5 8) (S 5 9) (S 5 10) (S 5 11)) [3] [0, 1, 2, 4, 5] rfl (by decide) 3 0 rfl rfl rfl rfl hl.1 [.int (f_X5_fieldWidth (S 5 0) (S 5 3) (S 5 4)), .int (0 : Int32), .int (0 : Int32), .ref (a o)] rfl (Nat.le_of_ble_eq_true rfl) ⟨Nat.le_of_ble_eq_true rfl, Nat.le_of_ble_eq_true rfl⟩ ⟨Nat.zero_le _, Nat.zero_le _⟩ dX3_chooseOnNewPage_50 (wb' := [k_PkO g a o (aS oS) (aC oC), k_Choice g a (o+5) r1.1 r1.2 chCol chRow chTurned chFirst chSecond, k_StO g aS oS, k_Settings g aS (oS+6) (S 5 0) (S 5 1) (S 5 2) (S 5 3) (S 5 4) (S 5 5) (S 5 6) (S 5 7) (S 5 8) (S 5 9) (S 5 10) (S 5 11), k_Places g aS (oS+7) (S 6 0) (S 7) (S 8) (S 9) (S 10) (S 11), k_Catalog g aC oC lefts tops cwidths cheights originals orients]) rfl (b_e1 rfl (b_e1 rfl (b_e1 rfl (b_e1 rfl (b_e1 rfl b_e0))))) 6 rfl (by decide) (st2 := [.int (f_X5_fieldHeight (S 5 1) (S 5 3) (S 5 4)), .int (f_X5_fieldWidth (S 5 0) (S 5 3) (S 5 4)), .int (0 : Int32), .int (0 : Int32), .ref (a o)]) rfl (fun H locs hw => ?_)
    refine b_callS hx hb hml hown hT hK hA hw mk_X3_227 (c_X7_code l D g (0 : Int32) (0 : Int32) (f_X5_fieldWidth (S 5 0) (S 5 3) (S 5 4)) (f_X5_fieldHeight (S 5 1) (S 5 3) (S 5 4))) [] [0, 1, 2, 3, 4, 5] rfl (by decide) rfl hl.1 [.ref (a o)] rfl (Nat.le_of_ble_eq_true rfl) ⟨Nat.le_of_ble_eq_true rfl, Nat.le_of_ble_eq_true rfl⟩ ⟨Nat.zero_le _, Nat.zero_le _⟩ dX3_chooseOnNewPage_53 (wb' := [k_PkO g a o (aS oS) (aC oC), k_Choice g a (o+5) r1.1 r1.2 chCol chRow chTurned chFirst chSecond, k_StO g aS oS, k_Settings g aS (oS+6) (S 5 0) (S 5 1) (S 5 2) (S 5 3) (S 5 4) (S 5 5) (S 5 6) (S 5 7) (S 5 8) (S 5 9) (S 5 10) (S 5 11), k_Places g aS (oS+7) (S 6 0) (S 7) (S 8) (S 9) (S 10) (S 11), k_Catalog g aC oC lefts tops cwidths cheights originals orients]) rfl (b_e1 rfl (b_e1 rfl (b_e1 rfl (b_e1 rfl (b_e1 rfl (b_e1 rfl b_e0)))))) 6 rfl (by decide) (st2 := [.int (f_X7_code (0 : Int32) (0 : Int32) (f_X5_fieldWidth (S 5 0) (S 5 3) (S 5 4)) (f_X5_fieldHeight (S 5 1) (S 5 3) (S 5 4))), .ref (a o)]) rfl (fun H locs hw => ?_)
    refine lv_iload_n hx hb dX3_chooseOnNewPage_56 rfl (lv_at hl 1 rfl) ?_
    obtain ⟨r10, er10, h⟩ := g_cl_some h
    refine b_callV hx hb hml hown hT hK hA hw mk_X3_218 (c_X3_offerBoth l D g a o aS oS aC oC r1.1 r1.2 chCol chRow chTurned chFirst chSecond S lefts tops cwidths cheights originals orients (f_X7_code (0 : Int32) (0 : Int32) (f_X5_fieldWidth (S 5 0) (S 5 3) (S 5 4)) (f_X5_fieldHeight (S 5 1) (S 5 3) (S 5 4))) i1 r10 er10) [0, 1, 2, 3, 5] [4] rfl (by decide) 0 0 rfl rfl rfl rfl hl.1 [] rfl (Nat.le_of_ble_eq_true rfl) ⟨Nat.le_of_ble_eq_true rfl, Nat.le_of_ble_eq_true rfl⟩ ⟨Nat.zero_le _, Nat.zero_le _⟩ dX3_chooseOnNewPage_57 (wb' := [k_PkO g a o (aS oS) (aC oC), k_Choice g a (o+5) r10.1 r1.2 r10.2.1 r10.2.2.1 r10.2.2.2.1 r10.2.2.2.2.1 r10.2.2.2.2.2, k_StO g aS oS, k_Settings g aS (oS+6) (S 5 0) (S 5 1) (S 5 2) (S 5 3) (S 5 4) (S 5 5) (S 5 6) (S 5 7) (S 5 8) (S 5 9) (S 5 10) (S 5 11), k_Places g aS (oS+7) (S 6 0) (S 7) (S 8) (S 9) (S 10) (S 11), k_Catalog g aC oC lefts tops cwidths cheights originals orients]) rfl (b_e1 rfl b_e0) 6 rfl (by decide) (st2 := []) rfl (fun H locs hw => ?_)
    exact hj60_7 r10.1 r10.2.1 r10.2.2.1 r10.2.2.2.1 r10.2.2.2.2.1 r10.2.2.2.2.2 _ _ _ hw (lv_sub hl [0] rfl) h
set_option maxRecDepth 100000 in
set_option maxHeartbeats 4000000 in
theorem c_X3_choose (l : Launch) (D : va_G) (g : Nat → ClassId) (a : Nat → Nat) (o : Nat) (aS : Nat → Nat) (oS : Nat) (aC : Nat → Nat) (oC : Nat) (spW : Int32) (spH : Int32) (fr : (Nat → Int64)) (codes : (Nat → Int32)) (counts : (Nat → Int32)) (chFound : Int32) (chPage : Int32) (chCol : Int32) (chRow : Int32) (chTurned : Int32) (chFirst : Int32) (chSecond : Int32) (S : Nat → Nat → Int32) (lefts : (Nat → Int32)) (tops : (Nat → Int32)) (cwidths : (Nat → Int32)) (cheights : (Nat → Int32)) (originals : (Nat → Int32)) (orients : (Nat → Int32)) (i1 : Int32) (u : Int32 × Int32 × Int32 × Int32 × Int32 × Int32 × Int32 × Int32) (h : f_X3_choose codes counts chFound chPage chCol chRow chTurned chFirst chSecond S cwidths cheights i1 = some u) : b_Ct l yX3_choose cX3_choose 3 (some .boolean) 5 119 D g [.ref (a o), .int i1] [k_PkO g a o (aS oS) (aC oC), k_Space g a (o+1) spW spH fr codes counts, k_Choice g a (o+5) chFound chPage chCol chRow chTurned chFirst chSecond, k_StO g aS oS, k_Sheet g aS (oS+1) (S 0 0) (S 1) (S 2) (S 3) (S 4), k_Settings g aS (oS+6) (S 5 0) (S 5 1) (S 5 2) (S 5 3) (S 5 4) (S 5 5) (S 5 6) (S 5 7) (S 5 8) (S 5 9) (S 5 10) (S 5 11), k_Places g aS (oS+7) (S 6 0) (S 7) (S 8) (S 9) (S 10) (S 11), k_Catalog g aC oC lefts tops cwidths cheights originals orients] [k_PkO g a o (aS oS) (aC oC), k_Space g a (o+1) spW spH fr codes counts, k_Choice g a (o+5) u.2.1 u.2.2.1 u.2.2.2.1 u.2.2.2.2.1 u.2.2.2.2.2.1 u.2.2.2.2.2.2.1 u.2.2.2.2.2.2.2, k_StO g aS oS, k_Sheet g aS (oS+1) (S 0 0) (S 1) (S 2) (S 3) (S 4), k_Settings g aS (oS+6) (S 5 0) (S 5 1) (S 5 2) (S 5 3) (S 5 4) (S 5 5) (S 5 6) (S 5 7) (S 5 8) (S 5 9) (S 5 10) (S 5 11), k_Places g aS (oS+7) (S 6 0) (S 7) (S 8) (S 9) (S 10) (S 11), k_Catalog g aC oC lefts tops cwidths cheights originals orients] (some (.int u.1)) := by
  refine b_start RX3 (by decide) rfl (Nat.le_of_ble_eq_true rfl) rfl ?_
  intro p e s m args below meth c A ls Q hQ hx hb hr hlk hml hown hT hK hA hw hl
  have hl : lv_has ls 3 [(0, .ref (a o)), (1, .int i1)] := hl
  unfold f_X3_choose at h
  refine lv_iconst (v := 0) hx hb dX3_choose_0 (by decide) ?_
  refine lv_istore_n (lv' := [(2, .int (0 : Int32)), (0, .ref (a o)), (1, .int i1)]) hx hb dX3_choose_1 rfl hl (by decide) rfl (fun ls hl => ?_)
  obtain ⟨k42_7, ek42_7, h⟩ := g_jn_nm h
  have hk42_7 : ∀ (x1 : Int32) (x2 : Int32) (x3 : Int32) (x4 : Int32) (x5 : Int32) (x6 : Int32) (x7 : Int32) (H : Heap) (locs : List Loc) (ls : Array Slot), b_Wd D A s.heap H locs [k_PkO g a o (aS oS) (aC oC), k_Space g a (o+1) spW spH fr codes counts, k_Choice g a (o+5) x1 x2 x3 x4 x5 x6 x7, k_StO g aS oS, k_Sheet g aS (oS+1) (S 0 0) (S 1) (S 2) (S 3) (S 4), k_Settings g aS (oS+6) (S 5 0) (S 5 1) (S 5 2) (S 5 3) (S 5 4) (S 5 5) (S 5 6) (S 5 7) (S 5 8) (S 5 9) (S 5 10) (S 5 11), k_Places g aS (oS+7) (S 6 0) (S 7) (S 8) (S 9) (S 10) (S 11), k_Catalog g aC oC lefts tops cwidths cheights originals orients] → lv_has ls 3 [(0, .ref (a o)), (1, .int i1)] → k42_7 x1 x2 x3 x4 x5 x6 x7 = some u → W p l e (g_rm 5 119) s m args below meth c H locs 0 0 Q (F0 m 42 ls []) := by
    intro x1 x2 x3 x4 x5 x6 x7 H locs ls hw hl h
    subst ek42_7
    dsimp only at h
    refine lv_aload_n hx hb dX3_choose_42 rfl (lv_at hl 0 rfl) ?_
    refine b_get hx hb hT hK hown fl_X3_29 hw 0 0 rfl rfl (v := .ref (aS oS)) rfl dX3_choose_43 ?_
    refine b_get hx hb hT hK hown fl_X3_37 hw 3 0 rfl rfl (v := .ref (aS (oS+7))) rfl dX3_choose_46 ?_
    refine b_get hx hb hT hK hown fl_X3_60 hw 6 0 rfl rfl (v := .int (S 6 0)) rfl dX3_choose_49 ?_
    refine lv_aload_n hx hb dX3_choose_52 rfl (lv_at hl 0 rfl) ?_
    refine b_get hx hb hT hK hown fl_X3_29 hw 0 0 rfl rfl (v := .ref (aS oS)) rfl dX3_choose_53 ?_
    refine b_get hx hb hT hK hown fl_X3_71 hw 3 0 rfl rfl (v := .ref (aS (oS+6))) rfl dX3_choose_56 ?_
    refine b_get hx hb hT hK hown fl_X3_75 hw 5 0 rfl rfl (v := .int (S 5 2)) rfl dX3_choose_59 ?_
    refine lv_icmp_ge (tgt := 77) hx hb dX3_choose_62 (by decide) (fun hc62 => ?_) (fun hc62 => ?_)
    · rw [if_pos hc62] at h
      refine lv_iconst (v := 0) hx hb dX3_choose_77 (by decide) ?_
      obtain rfl := Option.some.inj h
      exact b_zret hQ hx hb hr hlk (Or.inl rfl) hw rfl dX3_choose_78
    · rw [if_neg hc62] at h
      refine lv_aload_n hx hb dX3_choose_65 rfl (lv_at hl 0 rfl) ?_
      refine lv_iload_n hx hb dX3_choose_66 rfl (lv_at hl 1 rfl) ?_
      obtain ⟨r9, er9, h⟩ := g_cl_some h
      refine b_callV hx hb hml hown hT hK hA hw mk_X3_80 (c_X3_chooseOnNewPage l D g a o aS oS aC oC x1 x2 x3 x4 x5 x6 x7 S lefts tops cwidths cheights originals orients i1 r9 er9) [0, 2, 3, 5, 6, 7] [1, 4] rfl (by decide) 0 0 rfl rfl rfl rfl hl.1 [] rfl (Nat.le_of_ble_eq_true rfl) ⟨Nat.le_of_ble_eq_true rfl, Nat.le_of_ble_eq_true rfl⟩ ⟨Nat.zero_le _, Nat.zero_le _⟩ dX3_choose_67 (wb' := [k_PkO g a o (aS oS) (aC oC), k_Space g a (o+1) spW spH fr codes counts, k_Choice g a (o+5) r9.2.1 r9.2.2.1 r9.2.2.2.1 r9.2.2.2.2.1 r9.2.2.2.2.2.1 r9.2.2.2.2.2.2.1 r9.2.2.2.2.2.2.2, k_StO g aS oS, k_Sheet g aS (oS+1) (S 0 0) (S 1) (S 2) (S 3) (S 4), k_Settings g aS (oS+6) (S 5 0) (S 5 1) (S 5 2) (S 5 3) (S 5 4) (S 5 5) (S 5 6) (S 5 7) (S 5 8) (S 5 9) (S 5 10) (S 5 11), k_Places g aS (oS+7) (S 6 0) (S 7) (S 8) (S 9) (S 10) (S 11), k_Catalog g aC oC lefts tops cwidths cheights originals orients]) rfl (b_e1 rfl (b_e1 rfl b_e0)) 8 rfl (by decide) (st2 := [.int r9.1]) rfl (fun H locs hw => ?_)
      refine lv_if_eq (tgt := 77) hx hb dX3_choose_70 (by decide) (fun hc70 => ?_) (fun hc70 => ?_)
      · rw [if_pos hc70] at h
        refine lv_iconst (v := 0) hx hb dX3_choose_77 (by decide) ?_
        obtain rfl := Option.some.inj h
        exact b_zret hQ hx hb hr hlk (Or.inl rfl) hw rfl dX3_choose_78
      · rw [if_neg hc70] at h
        refine lv_iconst (v := 1) hx hb dX3_choose_73 (by decide) ?_
        refine lv_goto (tgt := 78) hx hb dX3_choose_74 (by decide) ?_
        obtain rfl := Option.some.inj h
        exact b_zret hQ hx hb hr hlk (Or.inr rfl) hw rfl dX3_choose_78
  have hL2 : ∀ (n : Nat) (x10 : Int32) (x11 : Int32) (x12 : Int32) (x13 : Int32) (x14 : Int32) (x15 : Int32) (x16 : Int32) (x17 : Int32) (H : Heap) (locs : List Loc) (ls : Array Slot), b_Wd D A s.heap H locs [k_PkO g a o (aS oS) (aC oC), k_Space g a (o+1) spW spH fr codes counts, k_Choice g a (o+5) x11 x12 x13 x14 x15 x16 x17, k_StO g aS oS, k_Sheet g aS (oS+1) (S 0 0) (S 1) (S 2) (S 3) (S 4), k_Settings g aS (oS+6) (S 5 0) (S 5 1) (S 5 2) (S 5 3) (S 5 4) (S 5 5) (S 5 6) (S 5 7) (S 5 8) (S 5 9) (S 5 10) (S 5 11), k_Places g aS (oS+7) (S 6 0) (S 7) (S 8) (S 9) (S 10) (S 11), k_Catalog g aC oC lefts tops cwidths cheights originals orients] → lv_has ls 3 [(0, .ref (a o)), (1, .int i1), (2, .int x10)] → f_X3_choose_L2 codes counts S cwidths cheights i1 k42_7 n x10 x11 x12 x13 x14 x15 x16 x17 = some u → W p l e (g_rm 5 119) s m args below meth c H locs 0 0 Q (F0 m 2 ls []) := by
    intro n
    induction n with
    | zero =>
      intro x10 x11 x12 x13 x14 x15 x16 x17 H locs ls hw hl h
      cases (show none = some u from h)
    | succ n ih2 =>
      intro x10 x11 x12 x13 x14 x15 x16 x17 H locs ls hw hl h
      rw [f_X3_choose_L2] at h
      refine lv_iload_n hx hb dX3_choose_2 rfl (lv_at hl 2 rfl) ?_
      refine lv_aload_n hx hb dX3_choose_3 rfl (lv_at hl 0 rfl) ?_
      refine b_get hx hb hT hK hown fl_X3_29 hw 0 0 rfl rfl (v := .ref (aS oS)) rfl dX3_choose_4 ?_
      refine b_get hx hb hT hK hown fl_X3_37 hw 3 0 rfl rfl (v := .ref (aS (oS+7))) rfl dX3_choose_7 ?_
      refine b_get hx hb hT hK hown fl_X3_60 hw 6 0 rfl rfl (v := .int (S 6 0)) rfl dX3_choose_10 ?_
      refine lv_icmp_ge (tgt := 42) hx hb dX3_choose_13 (by decide) (fun hc13 => ?_) (fun hc13 => ?_)
      · rw [if_pos hc13] at h
        exact hk42_7 x11 x12 x13 x14 x15 x16 x17 _ _ _ hw (lv_sub hl [0, 1] rfl) h
      · rw [if_neg hc13] at h
        refine lv_aload_n hx hb dX3_choose_16 rfl (lv_at hl 0 rfl) ?_
        refine lv_iload_n hx hb dX3_choose_17 rfl (lv_at hl 2 rfl) ?_
        refine lv_iload_n hx hb dX3_choose_18 rfl (lv_at hl 1 rfl) ?_
        obtain ⟨r18, er18, h⟩ := g_cl_some h
        refine b_callV hx hb hml hown hT hK hA hw mk_X3_64 (c_X3_isOpenTo l D g a o aS oS aC oC S x10 i1 r18 er18) [0, 3, 4, 5, 6] [1, 2, 7] rfl (by decide) 0 0 rfl rfl rfl rfl hl.1 [] rfl (Nat.le_of_ble_eq_true rfl) ⟨Nat.le_of_ble_eq_true rfl, Nat.le_of_ble_eq_true rfl⟩ ⟨Nat.zero_le _, Nat.zero_le _⟩ dX3_choose_19 (wb' := [k_PkO g a o (aS oS) (aC oC), k_Space g a (o+1) spW spH fr codes counts, k_Choice g a (o+5) x11 x12 x13 x14 x15 x16 x17, k_StO g aS oS, k_Sheet g aS (oS+1) (S 0 0) (S 1) (S 2) (S 3) (S 4), k_Settings g aS (oS+6) (S 5 0) (S 5 1) (S 5 2) (S 5 3) (S 5 4) (S 5 5) (S 5 6) (S 5 7) (S 5 8) (S 5 9) (S 5 10) (S 5 11), k_Places g aS (oS+7) (S 6 0) (S 7) (S 8) (S 9) (S 10) (S 11), k_Catalog g aC oC lefts tops cwidths cheights originals orients]) rfl (b_e1 rfl (b_e1 rfl (b_e1 rfl b_e0))) 8 rfl (by decide) (st2 := [.int r18]) rfl (fun H locs hw => ?_)
        obtain ⟨j36_25, ej36_25, h⟩ := g_jn_nm h
        have hj36_25 : ∀ (x19 : Int32) (x20 : Int32) (x21 : Int32) (x22 : Int32) (x23 : Int32) (x24 : Int32) (x25 : Int32) (H : Heap) (locs : List Loc) (ls : Array Slot), b_Wd D A s.heap H locs [k_PkO g a o (aS oS) (aC oC), k_Space g a (o+1) spW spH fr codes counts, k_Choice g a (o+5) x19 x20 x21 x22 x23 x24 x25, k_StO g aS oS, k_Sheet g aS (oS+1) (S 0 0) (S 1) (S 2) (S 3) (S 4), k_Settings g aS (oS+6) (S 5 0) (S 5 1) (S 5 2) (S 5 3) (S 5 4) (S 5 5) (S 5 6) (S 5 7) (S 5 8) (S 5 9) (S 5 10) (S 5 11), k_Places g aS (oS+7) (S 6 0) (S 7) (S 8) (S 9) (S 10) (S 11), k_Catalog g aC oC lefts tops cwidths cheights originals orients] → lv_has ls 3 [(0, .ref (a o)), (1, .int i1), (2, .int x10)] → j36_25 x19 x20 x21 x22 x23 x24 x25 = some u → W p l e (g_rm 5 119) s m args below meth c H locs 0 0 Q (F0 m 36 ls []) := by
          intro x19 x20 x21 x22 x23 x24 x25 H locs ls hw hl h
          subst ej36_25
          dsimp only at h
          obtain ⟨x27, ex27, h⟩ := g_bd_nm h
          refine lv_iinc (v := x27) (lv' := [(2, .int x27), (0, .ref (a o)), (1, .int i1)]) hx hb dX3_choose_36 hl (k := 2) rfl (by rw [ex27]; rfl) (by decide) rfl (fun ls hl => ?_)
          refine lv_goto (tgt := 2) hx hb dX3_choose_39 (by decide) ?_
          exact ih2 x27 x19 x20 x21 x22 x23 x24 x25 _ _ _ hw (lv_sub hl [1, 2, 0] rfl) h
        refine lv_if_eq (tgt := 36) hx hb dX3_choose_22 (by decide) (fun hc22 => ?_) (fun hc22 => ?_)
        · rw [if_pos hc22] at h
          exact hj36_25 x11 x12 x13 x14 x15 x16 x17 _ _ _ hw (lv_sub hl [0, 1, 2] rfl) h
        · rw [if_neg hc22] at h
          refine lv_aload_n hx hb dX3_choose_25 rfl (lv_at hl 0 rfl) ?_
          refine lv_iload_n hx hb dX3_choose_26 rfl (lv_at hl 2 rfl) ?_
          refine lv_iload_n hx hb dX3_choose_27 rfl (lv_at hl 1 rfl) ?_
          obtain ⟨r28, er28, h⟩ := g_cl_some h
          refine b_callV hx hb hml hown hT hK hA hw mk_X3_68 (c_X3_chooseOn l D g a o aS oS aC oC spW spH fr codes counts x11 x12 x13 x14 x15 x16 x17 S lefts tops cwidths cheights originals orients x10 i1 r28 er28) [0, 1, 2, 3, 5, 7] [4, 6] rfl (by decide) 0 0 rfl rfl rfl rfl hl.1 [] rfl (Nat.le_of_ble_eq_true rfl) ⟨Nat.le_of_ble_eq_true rfl, Nat.le_of_ble_eq_true rfl⟩ ⟨Nat.zero_le _, Nat.zero_le _⟩ dX3_choose_28 (wb' := [k_PkO g a o (aS oS) (aC oC), k_Space g a (o+1) spW spH fr codes counts, k_Choice g a (o+5) r28.2.1 r28.2.2.1 r28.2.2.2.1 r28.2.2.2.2.1 r28.2.2.2.2.2.1 r28.2.2.2.2.2.2.1 r28.2.2.2.2.2.2.2, k_StO g aS oS, k_Sheet g aS (oS+1) (S 0 0) (S 1) (S 2) (S 3) (S 4), k_Settings g aS (oS+6) (S 5 0) (S 5 1) (S 5 2) (S 5 3) (S 5 4) (S 5 5) (S 5 6) (S 5 7) (S 5 8) (S 5 9) (S 5 10) (S 5 11), k_Places g aS (oS+7) (S 6 0) (S 7) (S 8) (S 9) (S 10) (S 11), k_Catalog g aC oC lefts tops cwidths cheights originals orients]) rfl (b_e1 rfl (b_e1 rfl b_e0)) 8 rfl (by decide) (st2 := [.int r28.1]) rfl (fun H locs hw => ?_)
          refine lv_if_eq (tgt := 36) hx hb dX3_choose_31 (by decide) (fun hc31 => ?_) (fun hc31 => ?_)
          · rw [if_pos hc31] at h
            exact hj36_25 r28.2.1 r28.2.2.1 r28.2.2.2.1 r28.2.2.2.2.1 r28.2.2.2.2.2.1 r28.2.2.2.2.2.2.1 r28.2.2.2.2.2.2.2 _ _ _ hw (lv_sub hl [0, 1, 2] rfl) h
          · rw [if_neg hc31] at h
            refine lv_iconst (v := 1) hx hb dX3_choose_34 (by decide) ?_
            obtain rfl := Option.some.inj h
            exact b_zret hQ hx hb hr hlk (Or.inr rfl) hw rfl dX3_choose_35
  exact hL2 g_fuel (0 : Int32) chFound chPage chCol chRow chTurned chFirst chSecond _ _ _ hw (lv_sub hl [1, 2, 0] rfl) h
set_option maxRecDepth 100000 in
set_option maxHeartbeats 4000000 in
theorem c_J7_rangeCheck_23922 (l : Launch) (D : va_G) (g : Nat → ClassId) (i1 : Int32) (i2 : Int32) (i3 : Int32) (u : Unit) (h : f_J7_rangeCheck_23922 i1 i2 i3 = some u) : b_Ct l yJ7_rangeCheck_23922 cJ7_rangeCheck_23922 3 none 0 0 D g [.int i1, .int i2, .int i3] ([] : List va_W) ([] : List va_W) none := by
  refine b_start RJ7 (by decide) rfl (Nat.le_of_ble_eq_true rfl) rfl ?_
  intro p e s m args below meth c A ls Q hQ hx hb hr hlk hml hown hT hK hA hw hl
  have hl : lv_has ls 3 [(0, .int i1), (1, .int i2), (2, .int i3)] := hl
  unfold f_J7_rangeCheck_23922 at h
  refine lv_iload_n hx hb dJ7_rangeCheck_23922_0 rfl (lv_at hl 1 rfl) ?_
  refine lv_iload_n hx hb dJ7_rangeCheck_23922_1 rfl (lv_at hl 2 rfl) ?_
  refine lv_icmp_le (tgt := 46) hx hb dJ7_rangeCheck_23922_2 (by decide) (fun hc2 => ?_) (fun hc2 => ?_)
  · rw [if_pos hc2] at h
    refine lv_iload_n hx hb dJ7_rangeCheck_23922_46 rfl (lv_at hl 1 rfl) ?_
    refine lv_if_ge (tgt := 59) hx hb dJ7_rangeCheck_23922_47 (by decide) (fun hc47 => ?_) (fun hc47 => ?_)
    · rw [if_pos hc47] at h
      refine lv_iload_n hx hb dJ7_rangeCheck_23922_59 rfl (lv_at hl 2 rfl) ?_
      refine lv_iload_n hx hb dJ7_rangeCheck_23922_60 rfl (lv_at hl 0 rfl) ?_
      refine lv_icmp_le (tgt := 73) hx hb dJ7_rangeCheck_23922_61 (by decide) (fun hc61 => ?_) (fun hc61 => ?_)
      · rw [if_pos hc61] at h
        obtain rfl := Option.some.inj h
        exact b_vret hQ hx hb hr hlk hw rfl dJ7_rangeCheck_23922_73
      · rw [if_neg hc61] at h
        cases h
    · rw [if_neg hc47] at h
      cases h
  · rw [if_neg hc2] at h
    cases h
set_option maxRecDepth 100000 in
set_option maxHeartbeats 4000000 in
theorem c_J7_fill_bad5a (l : Launch) (D : va_G) (g : Nat → ClassId) (a1 : Nat) (n_p0 : Nat) (arr : (Nat → Int64)) (i1 : Int32) (i2 : Int32) (i3 : Int64) (u : (Nat → Int64)) (h : f_J7_fill_bad5a n_p0 arr i1 i2 i3 = some u) : b_Ct l yJ7_fill_bad5a cJ7_fill_bad5a 6 none 1 22 D g [.ref a1, .int i1, .int i2, .long i3] [k_ArrJ g a1 n_p0 arr] [k_ArrJ g a1 n_p0 u] none := by
  refine b_start RJ7 (by decide) rfl (Nat.le_of_ble_eq_true rfl) rfl ?_
  intro p e s m args below meth c A ls Q hQ hx hb hr hlk hml hown hT hK hA hw hl
  have hl : lv_has ls 6 [(0, .ref a1), (1, .int i1), (2, .int i2), (3, .long i3)] := hl
  unfold f_J7_fill_bad5a at h
  refine lv_aload_n hx hb dJ7_fill_bad5a_0 rfl (lv_at hl 0 rfl) ?_
  refine b_alen hx hb hK hw 0 0 2 rfl rfl rfl (v := (Int32.ofNat n_p0)) rfl dJ7_fill_bad5a_1 ?_
  refine lv_iload_n hx hb dJ7_fill_bad5a_2 rfl (lv_at hl 1 rfl) ?_
  refine lv_iload_n hx hb dJ7_fill_bad5a_3 rfl (lv_at hl 2 rfl) ?_
  obtain ⟨r1, er1, h⟩ := g_cl_some h
  refine b_callS hx hb hml hown hT hK hA hw mk_J7_13 (c_J7_rangeCheck_23922 l D g (Int32.ofNat n_p0) i1 i2 r1 er1) [] [0] rfl (by decide) rfl hl.1 [] rfl (Nat.le_of_ble_eq_true rfl) ⟨Nat.le_of_ble_eq_true rfl, Nat.le_of_ble_eq_true rfl⟩ ⟨Nat.zero_le _, Nat.zero_le _⟩ dJ7_fill_bad5a_4 (wb' := [k_ArrJ g a1 n_p0 arr]) rfl (b_e1 rfl b_e0) 1 rfl (by decide) (st2 := []) rfl (fun H locs hw => ?_)
  refine lv_iload_n hx hb dJ7_fill_bad5a_7 rfl (lv_at hl 1 rfl) ?_
  refine lv_istore (lv' := [(5, .int i1), (0, .ref a1), (1, .int i1), (2, .int i2), (3, .long i3)]) hx hb dJ7_fill_bad5a_8 hl (by decide) rfl (fun ls hl => ?_)
  have hL10 : ∀ (n : Nat) (x2 : Int32) (f3 : Nat → Int64) (H : Heap) (locs : List Loc) (ls : Array Slot), b_Wd D A s.heap H locs [k_ArrJ g a1 n_p0 f3] → lv_has ls 6 [(0, .ref a1), (2, .int i2), (3, .long i3), (5, .int x2)] → f_J7_fill_bad5a_L10 n_p0 i2 i3 n x2 f3 = some u → W p l e (g_rm 1 22) s m args below meth c H locs 0 0 Q (F0 m 10 ls []) := by
    intro n
    induction n with
    | zero =>
      intro x2 f3 H locs ls hw hl h
      cases (show none = some u from h)
    | succ n ih10 =>
      intro x2 f3 H locs ls hw hl h
      rw [f_J7_fill_bad5a_L10] at h
      refine lv_iload hx hb dJ7_fill_bad5a_10 (lv_at hl 3 rfl) ?_
      refine lv_iload_n hx hb dJ7_fill_bad5a_12 rfl (lv_at hl 1 rfl) ?_
      refine lv_icmp_ge (tgt := 27) hx hb dJ7_fill_bad5a_13 (by decide) (fun hc13 => ?_) (fun hc13 => ?_)
      · rw [if_pos hc13] at h
        obtain rfl := Option.some.inj h
        exact b_vret hQ hx hb hr hlk hw rfl dJ7_fill_bad5a_27
      · rw [if_neg hc13] at h
        refine lv_aload_n hx hb dJ7_fill_bad5a_16 rfl (lv_at hl 0 rfl) ?_
        refine lv_iload hx hb dJ7_fill_bad5a_17 (lv_at hl 3 rfl) ?_
        refine lv_lload_n hx hb dJ7_fill_bad5a_19 rfl (lv_at hl 2 rfl) ?_
        obtain ⟨f4, ef4, hif4, h⟩ := g_wrL_some h
        refine b_last hx hb hK hw 0 0 rfl (f := f3) rfl hif4 ef4 rfl (wb' := [k_ArrJ g a1 n_p0 f4]) rfl dJ7_fill_bad5a_20 (fun H locs hw => ?_)
        obtain ⟨x5, ex5, h⟩ := g_bd_nm h
        refine lv_iinc (v := x5) (lv' := [(5, .int x5), (0, .ref a1), (2, .int i2), (3, .long i3)]) hx hb dJ7_fill_bad5a_21 hl (k := 3) rfl (by rw [ex5]; rfl) (by decide) rfl (fun ls hl => ?_)
        refine lv_goto (tgt := 10) hx hb dJ7_fill_bad5a_24 (by decide) ?_
        exact ih10 x5 f4 _ _ _ hw (lv_sub hl [1, 2, 3, 0] rfl) h
  exact hL10 g_fuel i1 arr _ _ _ hw (lv_sub hl [1, 3, 4, 0] rfl) h
set_option maxRecDepth 100000 in
set_option maxHeartbeats 4000000 in
theorem c_X7_open (l : Launch) (D : va_G) (g : Nat → ClassId) (a : Nat → Nat) (o : Nat) (spW : Int32) (spH : Int32) (fr : (Nat → Int64)) (codes : (Nat → Int32)) (counts : (Nat → Int32)) (i1 : Int32) (i2 : Int32) (u : Int32 × Int32 × (Nat → Int64)) (h : f_X7_open fr i1 i2 = some u) : b_Ct l yX7_open cX7_open 3 none 2 47 D g [.ref (a o), .int i1, .int i2] [k_Space g a o spW spH fr codes counts] [k_Space g a o u.1 u.2.1 u.2.2 codes counts] none := by
  refine b_start RX7 (by decide) rfl (Nat.le_of_ble_eq_true rfl) rfl ?_
  intro p e s m args below meth c A ls Q hQ hx hb hr hlk hml hown hT hK hA hw hl
  have hl : lv_has ls 3 [(0, .ref (a o)), (1, .int i1), (2, .int i2)] := hl
  unfold f_X7_open at h
  refine lv_aload_n hx hb dX7_open_0 rfl (lv_at hl 0 rfl) ?_
  refine lv_iload_n hx hb dX7_open_1 rfl (lv_at hl 1 rfl) ?_
  refine lv_iconst (v := 0) hx hb dX7_open_2 (by decide) ?_
  refine g_mmax hx hb hml hl.1 hown hT mm_X7_22 (Nat.le_of_ble_eq_true rfl) (Nat.le_of_ble_eq_true rfl) (Nat.zero_le _) (Nat.zero_le _) dX7_open_3 ?_
  obtain ⟨x1, ex1, h⟩ := g_bd_nm h
  refine g_topi ex1 ?_
  refine b_putf hx hb hT hK hown fl_X7_28 ft_X7 hw 0 0 rfl rfl rfl rfl rfl (Nat.le_of_ble_eq_true rfl) rfl (wb' := [k_Space g a o x1 spH fr codes counts]) rfl dX7_open_6 (fun H locs hw => ?_)
  refine lv_aload_n hx hb dX7_open_9 rfl (lv_at hl 0 rfl) ?_
  refine lv_iload_n hx hb dX7_open_10 rfl (lv_at hl 2 rfl) ?_
  refine lv_iconst (v := 0) hx hb dX7_open_11 (by decide) ?_
  refine g_mmax hx hb hml hl.1 hown hT mm_X7_22 (Nat.le_of_ble_eq_true rfl) (Nat.le_of_ble_eq_true rfl) (Nat.zero_le _) (Nat.zero_le _) dX7_open_12 ?_
  refine lv_bipush (v := 35) hx hb dX7_open_15 (by decide) ?_
  refine g_mmin hx hb hml hl.1 hown hT mm_X7_32 (Nat.le_of_ble_eq_true rfl) (Nat.le_of_ble_eq_true rfl) (Nat.zero_le _) (Nat.zero_le _) dX7_open_17 ?_
  obtain ⟨x2, ex2, h⟩ := g_bd_nm h
  refine g_topi ex2 ?_
  refine b_putf hx hb hT hK hown fl_X7_35 ft_X7 hw 0 0 rfl rfl rfl rfl rfl (Nat.le_of_ble_eq_true rfl) rfl (wb' := [k_Space g a o x1 x2 fr codes counts]) rfl dX7_open_20 (fun H locs hw => ?_)
  refine lv_aload_n hx hb dX7_open_23 rfl (lv_at hl 0 rfl) ?_
  refine b_get hx hb hT hK hown fl_X7_9 hw 0 0 rfl rfl (v := .ref (a (o+1))) rfl dX7_open_24 ?_
  refine lv_iconst (v := 0) hx hb dX7_open_27 (by decide) ?_
  refine lv_aload_n hx hb dX7_open_28 rfl (lv_at hl 0 rfl) ?_
  refine b_get hx hb hT hK hown fl_X7_35 hw 0 0 rfl rfl (v := .int x2) rfl dX7_open_29 ?_
  refine lv_lconst (v := 1) hx hb dX7_open_32 (by decide) ?_
  refine lv_aload_n hx hb dX7_open_33 rfl (lv_at hl 0 rfl) ?_
  refine b_get hx hb hT hK hown fl_X7_28 hw 0 0 rfl rfl (v := .int x1) rfl dX7_open_34 ?_
  refine g_lshlR hx hb dX7_open_37 ?_
  refine lv_lconst (v := 1) hx hb dX7_open_38 (by decide) ?_
  refine lv_lsub hx hb dX7_open_39 ?_
  obtain ⟨r3, er3, h⟩ := g_cl_some h
  refine b_callA hx hb hml hown hT hK hA hw mk_X7_38 (c_J7_fill_bad5a l D g (a (o+1)) 35 fr (0 : Int32) x2 ((g_lshl (1 : Int64) x1) - (1 : Int64)) r3 er3) 0 1 rfl rfl rfl hl.1 [] rfl (Nat.le_of_ble_eq_true rfl) ⟨Nat.le_of_ble_eq_true rfl, Nat.le_of_ble_eq_true rfl⟩ ⟨Nat.zero_le _, Nat.zero_le _⟩ dX7_open_40 rfl (wb' := [k_Space g a o x1 x2 r3 codes counts]) rfl (st2 := []) rfl (fun H locs hw => ?_)
  obtain rfl := Option.some.inj h
  exact b_vret hQ hx hb hr hlk hw rfl dX7_open_43
set_option maxRecDepth 100000 in
set_option maxHeartbeats 4000000 in
theorem c_X7_block (l : Launch) (D : va_G) (g : Nat → ClassId) (a : Nat → Nat) (o : Nat) (spW : Int32) (spH : Int32) (fr : (Nat → Int64)) (codes : (Nat → Int32)) (counts : (Nat → Int32)) (i1 : Int32) (i2 : Int32) (i3 : Int32) (i4 : Int32) (u : (Nat → Int64)) (h : f_X7_block spH fr i1 i2 i3 i4 = some u) : b_Ct l yX7_block cX7_block 8 none 1 13 D g [.ref (a o), .int i1, .int i2, .int i3, .int i4] [k_Space g a o spW spH fr codes counts] [k_Space g a o spW spH u codes counts] none := by
  refine b_start RX7 (by decide) rfl (Nat.le_of_ble_eq_true rfl) rfl ?_
  intro p e s m args below meth c A ls Q hQ hx hb hr hlk hml hown hT hK hA hw hl
  have hl : lv_has ls 8 [(0, .ref (a o)), (1, .int i1), (2, .int i2), (3, .int i3), (4, .int i4)] := hl
  unfold f_X7_block at h
  refine lv_lconst (v := 1) hx hb dX7_block_0 (by decide) ?_
  refine lv_iload_n hx hb dX7_block_1 rfl (lv_at hl 3 rfl) ?_
  refine g_lshlR hx hb dX7_block_2 ?_
  refine lv_lconst (v := 1) hx hb dX7_block_3 (by decide) ?_
  refine lv_lsub hx hb dX7_block_4 ?_
  refine lv_iload_n hx hb dX7_block_5 rfl (lv_at hl 1 rfl) ?_
  refine g_lshlR hx hb dX7_block_6 ?_
  obtain ⟨y1, ey1, h⟩ := g_bd_nm h
  refine g_topl ey1 ?_
  refine lv_lstore (lv' := [(5, .long y1), (0, .ref (a o)), (1, .int i1), (2, .int i2), (3, .int i3), (4, .int i4)]) hx hb dX7_block_7 hl (by decide) rfl (fun ls hl => ?_)
  refine lv_iload_n hx hb dX7_block_9 rfl (lv_at hl 3 rfl) ?_
  refine lv_iconst (v := 0) hx hb dX7_block_10 (by decide) ?_
  refine g_mmax hx hb hml hl.1 hown hT mm_X7_22 (Nat.le_of_ble_eq_true rfl) (Nat.le_of_ble_eq_true rfl) (Nat.zero_le _) (Nat.zero_le _) dX7_block_11 ?_
  obtain ⟨x2, ex2, h⟩ := g_bd_nm h
  refine g_topi ex2 ?_
  refine lv_istore (lv' := [(7, .int x2), (5, .long y1), (0, .ref (a o)), (1, .int i1), (2, .int i2), (3, .int i3), (4, .int i4)]) hx hb dX7_block_14 hl (by decide) rfl (fun ls hl => ?_)
  have hL16 : ∀ (n : Nat) (x3 : Int32) (f4 : Nat → Int64) (H : Heap) (locs : List Loc) (ls : Array Slot), b_Wd D A s.heap H locs [k_Space g a o spW spH f4 codes counts] → lv_has ls 8 [(0, .ref (a o)), (2, .int i2), (4, .int i4), (5, .long y1), (7, .int x3)] → f_X7_block_L16 spH i2 i4 y1 n x3 f4 = some u → W p l e (g_rm 1 13) s m args below meth c H locs 0 0 Q (F0 m 16 ls []) := by
    intro n
    induction n with
    | zero =>
      intro x3 f4 H locs ls hw hl h
      cases (show none = some u from h)
    | succ n ih16 =>
      intro x3 f4 H locs ls hw hl h
      rw [f_X7_block_L16] at h
      refine lv_iload hx hb dX7_block_16 (lv_at hl 4 rfl) ?_
      refine lv_iload_n hx hb dX7_block_18 rfl (lv_at hl 1 rfl) ?_
      refine lv_iload hx hb dX7_block_19 (lv_at hl 2 rfl) ?_
      refine lv_iadd hx hb dX7_block_21 ?_
      refine lv_icmp_ge (tgt := 56) hx hb dX7_block_22 (by decide) (fun hc22 => ?_) (fun hc22 => ?_)
      · rw [if_pos hc22] at h
        obtain rfl := Option.some.inj h
        exact b_vret hQ hx hb hr hlk hw rfl dX7_block_56
      · rw [if_neg hc22] at h
        refine lv_iload hx hb dX7_block_25 (lv_at hl 4 rfl) ?_
        refine lv_aload_n hx hb dX7_block_27 rfl (lv_at hl 0 rfl) ?_
        refine b_get hx hb hT hK hown fl_X7_35 hw 0 0 rfl rfl (v := .int spH) rfl dX7_block_28 ?_
        refine lv_icmp_ge (tgt := 56) hx hb dX7_block_31 (by decide) (fun hc31 => ?_) (fun hc31 => ?_)
        · rw [if_pos hc31] at h
          obtain rfl := Option.some.inj h
          exact b_vret hQ hx hb hr hlk hw rfl dX7_block_56
        · rw [if_neg hc31] at h
          refine lv_aload_n hx hb dX7_block_34 rfl (lv_at hl 0 rfl) ?_
          refine b_get hx hb hT hK hown fl_X7_9 hw 0 0 rfl rfl (v := .ref (a (o+1))) rfl dX7_block_35 ?_
          refine lv_iload hx hb dX7_block_38 (lv_at hl 4 rfl) ?_
          refine lv_dup2_11 hx hb dX7_block_40 rfl rfl ?_
          obtain ⟨y5, ey5, hiy5, h⟩ := g_rd_some h
          refine b_lald hx hb hK hw 0 1 rfl (f := f4) rfl hiy5 ey5 dX7_block_41 ?_
          refine lv_lload hx hb dX7_block_42 (lv_at hl 3 rfl) ?_
          refine lv_ldc2 hx hb hown (hT _ kc_X7_44) dX7_block_44 ?_
          refine lv_lxor hx hb dX7_block_47 ?_
          refine lv_land hx hb dX7_block_48 ?_
          obtain ⟨y6, ey6, h⟩ := g_bd_nm h
          refine g_topl ey6 ?_
          obtain ⟨f7, ef7, hif7, h⟩ := g_wrL_some h
          refine b_last hx hb hK hw 0 1 rfl (f := f4) rfl hif7 ef7 rfl (wb' := [k_Space g a o spW spH f7 codes counts]) rfl dX7_block_49 (fun H locs hw => ?_)
          obtain ⟨x8, ex8, h⟩ := g_bd_nm h
          refine lv_iinc (v := x8) (lv' := [(7, .int x8), (0, .ref (a o)), (2, .int i2), (4, .int i4), (5, .long y1)]) hx hb dX7_block_50 hl (k := 4) rfl (by rw [ex8]; rfl) (by decide) rfl (fun ls hl => ?_)
          refine lv_goto (tgt := 16) hx hb dX7_block_53 (by decide) ?_
          exact ih16 x8 f7 _ _ _ hw (lv_sub hl [1, 2, 3, 4, 0] rfl) h
  exact hL16 g_fuel x2 fr _ _ _ hw (lv_sub hl [2, 4, 6, 1, 0] rfl) h
set_option maxRecDepth 100000 in
set_option maxHeartbeats 4000000 in
theorem c_J13_bitCount_95d88 (l : Launch) (D : va_G) (g : Nat → ClassId) (i1 : Int64) : b_Ct l yJ13_bitCount_95d88 cJ13_bitCount_95d88 2 (some .int) 0 0 D g [.long i1] ([] : List va_W) ([] : List va_W) (some (.int (f_J13_bitCount_95d88 i1))) := by
  refine b_start RJ13 (by decide) rfl (Nat.le_of_ble_eq_true rfl) rfl ?_
  intro p e s m args below meth c A ls Q hQ hx hb hr hlk hml hown hT hK hA hw hl
  have hl : lv_has ls 2 [(0, .long i1)] := hl
  generalize h : f_J13_bitCount_95d88 i1 = u at hQ
  unfold f_J13_bitCount_95d88 at h
  refine lv_lload_n hx hb dJ13_bitCount_95d88_0 rfl (lv_at hl 0 rfl) ?_
  refine lv_lload_n hx hb dJ13_bitCount_95d88_1 rfl (lv_at hl 0 rfl) ?_
  refine lv_iconst (v := 1) hx hb dJ13_bitCount_95d88_2 (by decide) ?_
  refine g_lushrR hx hb dJ13_bitCount_95d88_3 ?_
  refine lv_ldc2 hx hb hown (hT _ kc_J13_314) dJ13_bitCount_95d88_4 ?_
  refine lv_land hx hb dJ13_bitCount_95d88_7 ?_
  refine lv_lsub hx hb dJ13_bitCount_95d88_8 ?_
  obtain ⟨y1, ey1, h⟩ := g_bd_nm h
  refine g_topl ey1 ?_
  refine lv_lstore_n (lv' := [(0, .long y1)]) hx hb dJ13_bitCount_95d88_9 rfl hl (by decide) rfl (fun ls hl => ?_)
  refine lv_lload_n hx hb dJ13_bitCount_95d88_10 rfl (lv_at hl 0 rfl) ?_
  refine lv_ldc2 hx hb hown (hT _ kc_J13_316) dJ13_bitCount_95d88_11 ?_
  refine lv_land hx hb dJ13_bitCount_95d88_14 ?_
  refine lv_lload_n hx hb dJ13_bitCount_95d88_15 rfl (lv_at hl 0 rfl) ?_
  refine lv_iconst (v := 2) hx hb dJ13_bitCount_95d88_16 (by decide) ?_
  refine g_lushrR hx hb dJ13_bitCount_95d88_17 ?_
  refine lv_ldc2 hx hb hown (hT _ kc_J13_316) dJ13_bitCount_95d88_18 ?_
  refine lv_land hx hb dJ13_bitCount_95d88_21 ?_
  refine lv_ladd hx hb dJ13_bitCount_95d88_22 ?_
  obtain ⟨y2, ey2, h⟩ := g_bd_nm h
  refine g_topl ey2 ?_
  refine lv_lstore_n (lv' := [(0, .long y2)]) hx hb dJ13_bitCount_95d88_23 rfl hl (by decide) rfl (fun ls hl => ?_)
  refine lv_lload_n hx hb dJ13_bitCount_95d88_24 rfl (lv_at hl 0 rfl) ?_
  refine lv_lload_n hx hb dJ13_bitCount_95d88_25 rfl (lv_at hl 0 rfl) ?_
  refine lv_iconst (v := 4) hx hb dJ13_bitCount_95d88_26 (by decide) ?_
  refine g_lushrR hx hb dJ13_bitCount_95d88_27 ?_
  refine lv_ladd hx hb dJ13_bitCount_95d88_28 ?_
  refine lv_ldc2 hx hb hown (hT _ kc_J13_318) dJ13_bitCount_95d88_29 ?_
  refine lv_land hx hb dJ13_bitCount_95d88_32 ?_
  obtain ⟨y3, ey3, h⟩ := g_bd_nm h
  refine g_topl ey3 ?_
  refine lv_lstore_n (lv' := [(0, .long y3)]) hx hb dJ13_bitCount_95d88_33 rfl hl (by decide) rfl (fun ls hl => ?_)
  refine lv_lload_n hx hb dJ13_bitCount_95d88_34 rfl (lv_at hl 0 rfl) ?_
  refine lv_lload_n hx hb dJ13_bitCount_95d88_35 rfl (lv_at hl 0 rfl) ?_
  refine lv_bipush (v := 8) hx hb dJ13_bitCount_95d88_36 (by decide) ?_
  refine g_lushrR hx hb dJ13_bitCount_95d88_38 ?_
  refine lv_ladd hx hb dJ13_bitCount_95d88_39 ?_
  obtain ⟨y4, ey4, h⟩ := g_bd_nm h
  refine g_topl ey4 ?_
  refine lv_lstore_n (lv' := [(0, .long y4)]) hx hb dJ13_bitCount_95d88_40 rfl hl (by decide) rfl (fun ls hl => ?_)
  refine lv_lload_n hx hb dJ13_bitCount_95d88_41 rfl (lv_at hl 0 rfl) ?_
  refine lv_lload_n hx hb dJ13_bitCount_95d88_42 rfl (lv_at hl 0 rfl) ?_
  refine lv_bipush (v := 16) hx hb dJ13_bitCount_95d88_43 (by decide) ?_
  refine g_lushrR hx hb dJ13_bitCount_95d88_45 ?_
  refine lv_ladd hx hb dJ13_bitCount_95d88_46 ?_
  obtain ⟨y5, ey5, h⟩ := g_bd_nm h
  refine g_topl ey5 ?_
  refine lv_lstore_n (lv' := [(0, .long y5)]) hx hb dJ13_bitCount_95d88_47 rfl hl (by decide) rfl (fun ls hl => ?_)
  refine lv_lload_n hx hb dJ13_bitCount_95d88_48 rfl (lv_at hl 0 rfl) ?_
  refine lv_lload_n hx hb dJ13_bitCount_95d88_49 rfl (lv_at hl 0 rfl) ?_
  refine lv_bipush (v := 32) hx hb dJ13_bitCount_95d88_50 (by decide) ?_
  refine g_lushrR hx hb dJ13_bitCount_95d88_52 ?_
  refine lv_ladd hx hb dJ13_bitCount_95d88_53 ?_
  obtain ⟨y6, ey6, h⟩ := g_bd_nm h
  refine g_topl ey6 ?_
  refine lv_lstore_n (lv' := [(0, .long y6)]) hx hb dJ13_bitCount_95d88_54 rfl hl (by decide) rfl (fun ls hl => ?_)
  refine lv_lload_n hx hb dJ13_bitCount_95d88_55 rfl (lv_at hl 0 rfl) ?_
  refine lv_l2i hx hb dJ13_bitCount_95d88_56 rfl ?_
  refine lv_bipush (v := 127) hx hb dJ13_bitCount_95d88_57 (by decide) ?_
  refine lv_iand hx hb dJ13_bitCount_95d88_59 ?_
  obtain rfl := h
  exact b_iret hQ hx hb hr hlk hw rfl dJ13_bitCount_95d88_60
