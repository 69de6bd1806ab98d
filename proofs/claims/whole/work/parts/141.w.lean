set_option maxRecDepth 100000 in
set_option maxHeartbeats 4000000 in
theorem c_X11_height (l : Launch) (D : va_G) (g : Nat → ClassId) (a : Nat → Nat) (o : Nat) (pasts : Int32) (length : Int32) (printed : Int32) (told : Int32) (state : Int64) (backX : Int32) (backY : Int32) (boxes : Int32) (frees : Int32) (bestFree : Int32) (bestTurned : Int32) (bestFirst : Int32) (bestSecond : Int32) (v : (Nat → Int32)) (spare : (Nat → Int32)) (past : (Nat → Int32)) (kept : (Nat → Int32)) (isKept : (Nat → Int32)) (text : (Nat → Int32)) (paper : (Nat → Int32)) (left : (Nat → Int32)) (top : (Nat → Int32)) (wide : (Nat → Int32)) (high : (Nat → Int32)) (original : (Nat → Int32)) (turn : (Nat → Int32)) (boxX : (Nat → Int32)) (boxY : (Nat → Int32)) (boxW : (Nat → Int32)) (boxH : (Nat → Int32)) (freeAtX : (Nat → Int32)) (freeAtY : (Nat → Int32)) (freeW : (Nat → Int32)) (freeH : (Nat → Int32)) (begins : (Nat → Int32)) (ends : (Nat → Int32)) (tried : (Nat → Int32)) (aside : (Nat → Int32)) (i1 : Int32) (u : Int32) (h : f_X11_height v i1 = some u) : b_Ct l yX11_height cX11_height 2 (some .int) 2 43 D g [.ref (a o), .int i1] [k_Model g a o pasts length printed told state backX backY boxes frees bestFree bestTurned bestFirst bestSecond v spare past kept isKept text paper left top wide high original turn boxX boxY boxW boxH freeAtX freeAtY freeW freeH begins ends tried aside] [k_Model g a o pasts length printed told state backX backY boxes frees bestFree bestTurned bestFirst bestSecond v spare past kept isKept text paper left top wide high original turn boxX boxY boxW boxH freeAtX freeAtY freeW freeH begins ends tried aside] (some (.int u)) := by
  refine b_start RX11 (by decide) rfl (Nat.le_of_ble_eq_true rfl) rfl ?_
  intro p e s m args below meth c A ls Q hQ hx hb hr hlk hml hown hT hK hA hw hl
  have hl : lv_has ls 2 [(0, .ref (a o)), (1, .int i1)] := hl
  unfold f_X11_height at h
  refine lv_aload_n hx hb dX11_height_0 rfl (lv_at hl 0 rfl) ?_
  refine lv_iload_n hx hb dX11_height_1 rfl (lv_at hl 1 rfl) ?_
  obtain ⟨r1, er1, h⟩ := g_cl_some h
  refine b_callV hx hb hml hown hT hK hA hw mk_X11_138 (c_X11_isSprite l D g a o pasts length printed told state backX backY boxes frees bestFree bestTurned bestFirst bestSecond v spare past kept isKept text paper left top wide high original turn boxX boxY boxW boxH freeAtX freeAtY freeW freeH begins ends tried aside i1 r1 er1) [0] [] rfl (by decide) 0 0 rfl rfl rfl rfl hl.1 [] rfl (Nat.le_of_ble_eq_true rfl) ⟨Nat.le_of_ble_eq_true rfl, Nat.le_of_ble_eq_true rfl⟩ ⟨Nat.zero_le _, Nat.zero_le _⟩ dX11_height_2 (wb' := [k_Model g a o pasts length printed told state backX backY boxes frees bestFree bestTurned bestFirst bestSecond v spare past kept isKept text paper left top wide high original turn boxX boxY boxW boxH freeAtX freeAtY freeW freeH begins ends tried aside]) rfl b_e0 1 rfl (by decide) (st2 := [.int r1]) rfl (fun H locs hw => ?_)
  refine lv_if_eq (tgt := 21) hx hb dX11_height_5 (by decide) (fun hc5 => ?_) (fun hc5 => ?_)
  · rw [if_pos hc5] at h
    refine lv_iconst (v := -1) hx hb dX11_height_21 (by decide) ?_
    obtain rfl := Option.some.inj h
    exact b_iret hQ hx hb hr hlk hw rfl dX11_height_22
  · rw [if_neg hc5] at h
    refine lv_aload_n hx hb dX11_height_8 rfl (lv_at hl 0 rfl) ?_
    refine b_get hx hb hT hK hown fl_X11_7 hw 0 0 rfl rfl (v := .ref (a (o+1))) rfl dX11_height_9 ?_
    refine lv_iload_n hx hb dX11_height_12 rfl (lv_at hl 1 rfl) ?_
    refine lv_iconst (v := 1) hx hb dX11_height_13 (by decide) ?_
    refine b_callS hx hb hml hown hT hK hA hw mk_X11_94 (c_X11_at l D g i1 (1 : Int32)) [] [0] rfl (by decide) rfl hl.1 [.ref (a (o+1))] rfl (Nat.le_of_ble_eq_true rfl) ⟨Nat.le_of_ble_eq_true rfl, Nat.le_of_ble_eq_true rfl⟩ ⟨Nat.zero_le _, Nat.zero_le _⟩ dX11_height_14 (wb' := [k_Model g a o pasts length printed told state backX backY boxes frees bestFree bestTurned bestFirst bestSecond v spare past kept isKept text paper left top wide high original turn boxX boxY boxW boxH freeAtX freeAtY freeW freeH begins ends tried aside]) rfl (b_e1 rfl b_e0) 1 rfl (by decide) (st2 := [.int (f_X11_at i1 (1 : Int32)), .ref (a (o+1))]) rfl (fun H locs hw => ?_)
    obtain ⟨x2, ex2, hix2, h⟩ := g_rd_some h
    refine b_iald hx hb hK hw 0 1 rfl (f := v) rfl hix2 ex2 dX11_height_17 ?_
    refine lv_goto (tgt := 22) hx hb dX11_height_18 (by decide) ?_
    obtain rfl := Option.some.inj h
    exact b_iret hQ hx hb hr hlk hw rfl dX11_height_22
set_option maxRecDepth 100000 in
set_option maxHeartbeats 4000000 in
theorem c_X11_isPixel (l : Launch) (D : va_G) (g : Nat → ClassId) (a : Nat → Nat) (o : Nat) (pasts : Int32) (length : Int32) (printed : Int32) (told : Int32) (state : Int64) (backX : Int32) (backY : Int32) (boxes : Int32) (frees : Int32) (bestFree : Int32) (bestTurned : Int32) (bestFirst : Int32) (bestSecond : Int32) (v : (Nat → Int32)) (spare : (Nat → Int32)) (past : (Nat → Int32)) (kept : (Nat → Int32)) (isKept : (Nat → Int32)) (text : (Nat → Int32)) (paper : (Nat → Int32)) (left : (Nat → Int32)) (top : (Nat → Int32)) (wide : (Nat → Int32)) (high : (Nat → Int32)) (original : (Nat → Int32)) (turn : (Nat → Int32)) (boxX : (Nat → Int32)) (boxY : (Nat → Int32)) (boxW : (Nat → Int32)) (boxH : (Nat → Int32)) (freeAtX : (Nat → Int32)) (freeAtY : (Nat → Int32)) (freeW : (Nat → Int32)) (freeH : (Nat → Int32)) (begins : (Nat → Int32)) (ends : (Nat → Int32)) (tried : (Nat → Int32)) (aside : (Nat → Int32)) (i1 : Int32) (i2 : Int32) (i3 : Int32) (u : Int32) (h : f_X11_isPixel v i1 i2 i3 = some u) : b_Ct l yX11_isPixel cX11_isPixel 4 (some .boolean) 2 43 D g [.ref (a o), .int i1, .int i2, .int i3] [k_Model g a o pasts length printed told state backX backY boxes frees bestFree bestTurned bestFirst bestSecond v spare past kept isKept text paper left top wide high original turn boxX boxY boxW boxH freeAtX freeAtY freeW freeH begins ends tried aside] [k_Model g a o pasts length printed told state backX backY boxes frees bestFree bestTurned bestFirst bestSecond v spare past kept isKept text paper left top wide high original turn boxX boxY boxW boxH freeAtX freeAtY freeW freeH begins ends tried aside] (some (.int u)) := by
  refine b_start RX11 (by decide) rfl (Nat.le_of_ble_eq_true rfl) rfl ?_
  intro p e s m args below meth c A ls Q hQ hx hb hr hlk hml hown hT hK hA hw hl
  have hl : lv_has ls 4 [(0, .ref (a o)), (1, .int i1), (2, .int i2), (3, .int i3)] := hl
  unfold f_X11_isPixel at h
  refine lv_aload_n hx hb dX11_isPixel_0 rfl (lv_at hl 0 rfl) ?_
  refine lv_iload_n hx hb dX11_isPixel_1 rfl (lv_at hl 1 rfl) ?_
  obtain ⟨r1, er1, h⟩ := g_cl_some h
  refine b_callV hx hb hml hown hT hK hA hw mk_X11_138 (c_X11_isSprite l D g a o pasts length printed told state backX backY boxes frees bestFree bestTurned bestFirst bestSecond v spare past kept isKept text paper left top wide high original turn boxX boxY boxW boxH freeAtX freeAtY freeW freeH begins ends tried aside i1 r1 er1) [0] [] rfl (by decide) 0 0 rfl rfl rfl rfl hl.1 [] rfl (Nat.le_of_ble_eq_true rfl) ⟨Nat.le_of_ble_eq_true rfl, Nat.le_of_ble_eq_true rfl⟩ ⟨Nat.zero_le _, Nat.zero_le _⟩ dX11_isPixel_2 (wb' := [k_Model g a o pasts length printed told state backX backY boxes frees bestFree bestTurned bestFirst bestSecond v spare past kept isKept text paper left top wide high original turn boxX boxY boxW boxH freeAtX freeAtY freeW freeH begins ends tried aside]) rfl b_e0 1 rfl (by decide) (st2 := [.int r1]) rfl (fun H locs hw => ?_)
  refine lv_if_eq (tgt := 52) hx hb dX11_isPixel_5 (by decide) (fun hc5 => ?_) (fun hc5 => ?_)
  · rw [if_pos hc5] at h
    refine lv_iconst (v := 0) hx hb dX11_isPixel_52 (by decide) ?_
    obtain rfl := Option.some.inj h
    exact b_zret hQ hx hb hr hlk (Or.inl rfl) hw rfl dX11_isPixel_53
  · rw [if_neg hc5] at h
    refine lv_iload_n hx hb dX11_isPixel_8 rfl (lv_at hl 2 rfl) ?_
    refine lv_iconst (v := 0) hx hb dX11_isPixel_9 (by decide) ?_
    refine lv_aload_n hx hb dX11_isPixel_10 rfl (lv_at hl 0 rfl) ?_
    refine b_get hx hb hT hK hown fl_X11_7 hw 0 0 rfl rfl (v := .ref (a (o+1))) rfl dX11_isPixel_11 ?_
    refine lv_iload_n hx hb dX11_isPixel_14 rfl (lv_at hl 1 rfl) ?_
    refine lv_iconst (v := 0) hx hb dX11_isPixel_15 (by decide) ?_
    refine b_callS hx hb hml hown hT hK hA hw mk_X11_94 (c_X11_at l D g i1 (0 : Int32)) [] [0] rfl (by decide) rfl hl.1 [.ref (a (o+1)), .int (0 : Int32), .int i2] rfl (Nat.le_of_ble_eq_true rfl) ⟨Nat.le_of_ble_eq_true rfl, Nat.le_of_ble_eq_true rfl⟩ ⟨Nat.zero_le _, Nat.zero_le _⟩ dX11_isPixel_16 (wb' := [k_Model g a o pasts length printed told state backX backY boxes frees bestFree bestTurned bestFirst bestSecond v spare past kept isKept text paper left top wide high original turn boxX boxY boxW boxH freeAtX freeAtY freeW freeH begins ends tried aside]) rfl (b_e1 rfl b_e0) 1 rfl (by decide) (st2 := [.int (f_X11_at i1 (0 : Int32)), .ref (a (o+1)), .int (0 : Int32), .int i2]) rfl (fun H locs hw => ?_)
    obtain ⟨x2, ex2, hix2, h⟩ := g_rd_some h
    refine b_iald hx hb hK hw 0 1 rfl (f := v) rfl hix2 ex2 dX11_isPixel_19 ?_
    refine lv_iconst (v := 1) hx hb dX11_isPixel_20 (by decide) ?_
    refine lv_isub hx hb dX11_isPixel_21 ?_
    refine b_callS hx hb hml hown hT hK hA hw mk_X11_86 (c_X11_in l D g i2 (0 : Int32) (x2 - (1 : Int32))) [] [0] rfl (by decide) rfl hl.1 [] rfl (Nat.le_of_ble_eq_true rfl) ⟨Nat.le_of_ble_eq_true rfl, Nat.le_of_ble_eq_true rfl⟩ ⟨Nat.zero_le _, Nat.zero_le _⟩ dX11_isPixel_22 (wb' := [k_Model g a o pasts length printed told state backX backY boxes frees bestFree bestTurned bestFirst bestSecond v spare past kept isKept text paper left top wide high original turn boxX boxY boxW boxH freeAtX freeAtY freeW freeH begins ends tried aside]) rfl (b_e1 rfl b_e0) 1 rfl (by decide) (st2 := [.int (f_X11_in i2 (0 : Int32) (x2 - (1 : Int32)))]) rfl (fun H locs hw => ?_)
    refine lv_if_eq (tgt := 52) hx hb dX11_isPixel_25 (by decide) (fun hc25 => ?_) (fun hc25 => ?_)
    · rw [if_pos hc25] at h
      refine lv_iconst (v := 0) hx hb dX11_isPixel_52 (by decide) ?_
      obtain rfl := Option.some.inj h
      exact b_zret hQ hx hb hr hlk (Or.inl rfl) hw rfl dX11_isPixel_53
    · rw [if_neg hc25] at h
      refine lv_iload_n hx hb dX11_isPixel_28 rfl (lv_at hl 3 rfl) ?_
      refine lv_iconst (v := 0) hx hb dX11_isPixel_29 (by decide) ?_
      refine lv_aload_n hx hb dX11_isPixel_30 rfl (lv_at hl 0 rfl) ?_
      refine b_get hx hb hT hK hown fl_X11_7 hw 0 0 rfl rfl (v := .ref (a (o+1))) rfl dX11_isPixel_31 ?_
      refine lv_iload_n hx hb dX11_isPixel_34 rfl (lv_at hl 1 rfl) ?_
      refine lv_iconst (v := 1) hx hb dX11_isPixel_35 (by decide) ?_
      refine b_callS hx hb hml hown hT hK hA hw mk_X11_94 (c_X11_at l D g i1 (1 : Int32)) [] [0] rfl (by decide) rfl hl.1 [.ref (a (o+1)), .int (0 : Int32), .int i3] rfl (Nat.le_of_ble_eq_true rfl) ⟨Nat.le_of_ble_eq_true rfl, Nat.le_of_ble_eq_true rfl⟩ ⟨Nat.zero_le _, Nat.zero_le _⟩ dX11_isPixel_36 (wb' := [k_Model g a o pasts length printed told state backX backY boxes frees bestFree bestTurned bestFirst bestSecond v spare past kept isKept text paper left top wide high original turn boxX boxY boxW boxH freeAtX freeAtY freeW freeH begins ends tried aside]) rfl (b_e1 rfl b_e0) 1 rfl (by decide) (st2 := [.int (f_X11_at i1 (1 : Int32)), .ref (a (o+1)), .int (0 : Int32), .int i3]) rfl (fun H locs hw => ?_)
      obtain ⟨x3, ex3, hix3, h⟩ := g_rd_some h
      refine b_iald hx hb hK hw 0 1 rfl (f := v) rfl hix3 ex3 dX11_isPixel_39 ?_
      refine lv_iconst (v := 1) hx hb dX11_isPixel_40 (by decide) ?_
      refine lv_isub hx hb dX11_isPixel_41 ?_
      refine b_callS hx hb hml hown hT hK hA hw mk_X11_86 (c_X11_in l D g i3 (0 : Int32) (x3 - (1 : Int32))) [] [0] rfl (by decide) rfl hl.1 [] rfl (Nat.le_of_ble_eq_true rfl) ⟨Nat.le_of_ble_eq_true rfl, Nat.le_of_ble_eq_true rfl⟩ ⟨Nat.zero_le _, Nat.zero_le _⟩ dX11_isPixel_42 (wb' := [k_Model g a o pasts length printed told state backX backY boxes frees bestFree bestTurned bestFirst bestSecond v spare past kept isKept text paper left top wide high original turn boxX boxY boxW boxH freeAtX freeAtY freeW freeH begins ends tried aside]) rfl (b_e1 rfl b_e0) 1 rfl (by decide) (st2 := [.int (f_X11_in i3 (0 : Int32) (x3 - (1 : Int32)))]) rfl (fun H locs hw => ?_)
      refine lv_if_eq (tgt := 52) hx hb dX11_isPixel_45 (by decide) (fun hc45 => ?_) (fun hc45 => ?_)
      · rw [if_pos hc45] at h
        refine lv_iconst (v := 0) hx hb dX11_isPixel_52 (by decide) ?_
        obtain rfl := Option.some.inj h
        exact b_zret hQ hx hb hr hlk (Or.inl rfl) hw rfl dX11_isPixel_53
      · rw [if_neg hc45] at h
        refine lv_iconst (v := 1) hx hb dX11_isPixel_48 (by decide) ?_
        refine lv_goto (tgt := 53) hx hb dX11_isPixel_49 (by decide) ?_
        obtain rfl := Option.some.inj h
        exact b_zret hQ hx hb hr hlk (Or.inr rfl) hw rfl dX11_isPixel_53
set_option maxRecDepth 100000 in
set_option maxHeartbeats 4000000 in
theorem c_X11_color (l : Launch) (D : va_G) (g : Nat → ClassId) (a : Nat → Nat) (o : Nat) (pasts : Int32) (length : Int32) (printed : Int32) (told : Int32) (state : Int64) (backX : Int32) (backY : Int32) (boxes : Int32) (frees : Int32) (bestFree : Int32) (bestTurned : Int32) (bestFirst : Int32) (bestSecond : Int32) (v : (Nat → Int32)) (spare : (Nat → Int32)) (past : (Nat → Int32)) (kept : (Nat → Int32)) (isKept : (Nat → Int32)) (text : (Nat → Int32)) (paper : (Nat → Int32)) (left : (Nat → Int32)) (top : (Nat → Int32)) (wide : (Nat → Int32)) (high : (Nat → Int32)) (original : (Nat → Int32)) (turn : (Nat → Int32)) (boxX : (Nat → Int32)) (boxY : (Nat → Int32)) (boxW : (Nat → Int32)) (boxH : (Nat → Int32)) (freeAtX : (Nat → Int32)) (freeAtY : (Nat → Int32)) (freeW : (Nat → Int32)) (freeH : (Nat → Int32)) (begins : (Nat → Int32)) (ends : (Nat → Int32)) (tried : (Nat → Int32)) (aside : (Nat → Int32)) (i1 : Int32) (i2 : Int32) (i3 : Int32) (u : Int32) (h : f_X11_color v i1 i2 i3 = some u) : b_Ct l yX11_color cX11_color 4 (some .int) 3 66 D g [.ref (a o), .int i1, .int i2, .int i3] [k_Model g a o pasts length printed told state backX backY boxes frees bestFree bestTurned bestFirst bestSecond v spare past kept isKept text paper left top wide high original turn boxX boxY boxW boxH freeAtX freeAtY freeW freeH begins ends tried aside] [k_Model g a o pasts length printed told state backX backY boxes frees bestFree bestTurned bestFirst bestSecond v spare past kept isKept text paper left top wide high original turn boxX boxY boxW boxH freeAtX freeAtY freeW freeH begins ends tried aside] (some (.int u)) := by
  refine b_start RX11 (by decide) rfl (Nat.le_of_ble_eq_true rfl) rfl ?_
  intro p e s m args below meth c A ls Q hQ hx hb hr hlk hml hown hT hK hA hw hl
  have hl : lv_has ls 4 [(0, .ref (a o)), (1, .int i1), (2, .int i2), (3, .int i3)] := hl
  unfold f_X11_color at h
  refine lv_aload_n hx hb dX11_color_0 rfl (lv_at hl 0 rfl) ?_
  refine lv_iload_n hx hb dX11_color_1 rfl (lv_at hl 1 rfl) ?_
  refine lv_iload_n hx hb dX11_color_2 rfl (lv_at hl 2 rfl) ?_
  refine lv_iload_n hx hb dX11_color_3 rfl (lv_at hl 3 rfl) ?_
  obtain ⟨r1, er1, h⟩ := g_cl_some h
  refine b_callV hx hb hml hown hT hK hA hw mk_X11_142 (c_X11_isPixel l D g a o pasts length printed told state backX backY boxes frees bestFree bestTurned bestFirst bestSecond v spare past kept isKept text paper left top wide high original turn boxX boxY boxW boxH freeAtX freeAtY freeW freeH begins ends tried aside i1 i2 i3 r1 er1) [0] [] rfl (by decide) 0 0 rfl rfl rfl rfl hl.1 [] rfl (Nat.le_of_ble_eq_true rfl) ⟨Nat.le_of_ble_eq_true rfl, Nat.le_of_ble_eq_true rfl⟩ ⟨Nat.zero_le _, Nat.zero_le _⟩ dX11_color_4 (wb' := [k_Model g a o pasts length printed told state backX backY boxes frees bestFree bestTurned bestFirst bestSecond v spare past kept isKept text paper left top wide high original turn boxX boxY boxW boxH freeAtX freeAtY freeW freeH begins ends tried aside]) rfl b_e0 1 rfl (by decide) (st2 := [.int r1]) rfl (fun H locs hw => ?_)
  refine lv_if_eq (tgt := 24) hx hb dX11_color_7 (by decide) (fun hc7 => ?_) (fun hc7 => ?_)
  · rw [if_pos hc7] at h
    refine lv_iconst (v := -1) hx hb dX11_color_24 (by decide) ?_
    obtain rfl := Option.some.inj h
    exact b_iret hQ hx hb hr hlk hw rfl dX11_color_25
  · rw [if_neg hc7] at h
    refine lv_aload_n hx hb dX11_color_10 rfl (lv_at hl 0 rfl) ?_
    refine b_get hx hb hT hK hown fl_X11_7 hw 0 0 rfl rfl (v := .ref (a (o+1))) rfl dX11_color_11 ?_
    refine lv_iload_n hx hb dX11_color_14 rfl (lv_at hl 1 rfl) ?_
    refine lv_iload_n hx hb dX11_color_15 rfl (lv_at hl 2 rfl) ?_
    refine lv_iload_n hx hb dX11_color_16 rfl (lv_at hl 3 rfl) ?_
    refine b_callS hx hb hml hown hT hK hA hw mk_X11_118 (c_X11_pixelAt l D g i1 i2 i3) [] [0] rfl (by decide) rfl hl.1 [.ref (a (o+1))] rfl (Nat.le_of_ble_eq_true rfl) ⟨Nat.le_of_ble_eq_true rfl, Nat.le_of_ble_eq_true rfl⟩ ⟨Nat.zero_le _, Nat.zero_le _⟩ dX11_color_17 (wb' := [k_Model g a o pasts length printed told state backX backY boxes frees bestFree bestTurned bestFirst bestSecond v spare past kept isKept text paper left top wide high original turn boxX boxY boxW boxH freeAtX freeAtY freeW freeH begins ends tried aside]) rfl (b_e1 rfl b_e0) 1 rfl (by decide) (st2 := [.int (f_X11_pixelAt i1 i2 i3), .ref (a (o+1))]) rfl (fun H locs hw => ?_)
    obtain ⟨x2, ex2, hix2, h⟩ := g_rd_some h
    refine b_iald hx hb hK hw 0 1 rfl (f := v) rfl hix2 ex2 dX11_color_20 ?_
    refine lv_goto (tgt := 25) hx hb dX11_color_21 (by decide) ?_
    obtain rfl := Option.some.inj h
    exact b_iret hQ hx hb hr hlk hw rfl dX11_color_25
set_option maxRecDepth 100000 in
set_option maxHeartbeats 4000000 in
theorem c_X11_setPixel (l : Launch) (D : va_G) (g : Nat → ClassId) (a : Nat → Nat) (o : Nat) (pasts : Int32) (length : Int32) (printed : Int32) (told : Int32) (state : Int64) (backX : Int32) (backY : Int32) (boxes : Int32) (frees : Int32) (bestFree : Int32) (bestTurned : Int32) (bestFirst : Int32) (bestSecond : Int32) (v : (Nat → Int32)) (spare : (Nat → Int32)) (past : (Nat → Int32)) (kept : (Nat → Int32)) (isKept : (Nat → Int32)) (text : (Nat → Int32)) (paper : (Nat → Int32)) (left : (Nat → Int32)) (top : (Nat → Int32)) (wide : (Nat → Int32)) (high : (Nat → Int32)) (original : (Nat → Int32)) (turn : (Nat → Int32)) (boxX : (Nat → Int32)) (boxY : (Nat → Int32)) (boxW : (Nat → Int32)) (boxH : (Nat → Int32)) (freeAtX : (Nat → Int32)) (freeAtY : (Nat → Int32)) (freeW : (Nat → Int32)) (freeH : (Nat → Int32)) (begins : (Nat → Int32)) (ends : (Nat → Int32)) (tried : (Nat → Int32)) (aside : (Nat → Int32)) (i1 : Int32) (i2 : Int32) (i3 : Int32) (i4 : Int32) (u : Int32 × Int32 × (Nat → Int32) × (Nat → Int32)) (h : f_X11_setPixel pasts v past i1 i2 i3 i4 = some u) : b_Ct l yX11_setPixel cX11_setPixel 5 (some .int) 3 66 D g [.ref (a o), .int i1, .int i2, .int i3, .int i4] [k_Model g a o pasts length printed told state backX backY boxes frees bestFree bestTurned bestFirst bestSecond v spare past kept isKept text paper left top wide high original turn boxX boxY boxW boxH freeAtX freeAtY freeW freeH begins ends tried aside] [k_Model g a o u.2.1 length printed told state backX backY boxes frees bestFree bestTurned bestFirst bestSecond u.2.2.1 spare u.2.2.2 kept isKept text paper left top wide high original turn boxX boxY boxW boxH freeAtX freeAtY freeW freeH begins ends tried aside] (some (.int u.1)) := by
  refine b_start RX11 (by decide) rfl (Nat.le_of_ble_eq_true rfl) rfl ?_
  intro p e s m args below meth c A ls Q hQ hx hb hr hlk hml hown hT hK hA hw hl
  have hl : lv_has ls 5 [(0, .ref (a o)), (1, .int i1), (2, .int i2), (3, .int i3), (4, .int i4)] := hl
  unfold f_X11_setPixel at h
  refine lv_aload_n hx hb dX11_setPixel_0 rfl (lv_at hl 0 rfl) ?_
  refine lv_iload_n hx hb dX11_setPixel_1 rfl (lv_at hl 1 rfl) ?_
  refine lv_iload_n hx hb dX11_setPixel_2 rfl (lv_at hl 2 rfl) ?_
  refine lv_iload_n hx hb dX11_setPixel_3 rfl (lv_at hl 3 rfl) ?_
  obtain ⟨r1, er1, h⟩ := g_cl_some h
  refine b_callV hx hb hml hown hT hK hA hw mk_X11_142 (c_X11_isPixel l D g a o pasts length printed told state backX backY boxes frees bestFree bestTurned bestFirst bestSecond v spare past kept isKept text paper left top wide high original turn boxX boxY boxW boxH freeAtX freeAtY freeW freeH begins ends tried aside i1 i2 i3 r1 er1) [0] [] rfl (by decide) 0 0 rfl rfl rfl rfl hl.1 [] rfl (Nat.le_of_ble_eq_true rfl) ⟨Nat.le_of_ble_eq_true rfl, Nat.le_of_ble_eq_true rfl⟩ ⟨Nat.zero_le _, Nat.zero_le _⟩ dX11_setPixel_4 (wb' := [k_Model g a o pasts length printed told state backX backY boxes frees bestFree bestTurned bestFirst bestSecond v spare past kept isKept text paper left top wide high original turn boxX boxY boxW boxH freeAtX freeAtY freeW freeH begins ends tried aside]) rfl b_e0 1 rfl (by decide) (st2 := [.int r1]) rfl (fun H locs hw => ?_)
  refine lv_if_eq (tgt := 36) hx hb dX11_setPixel_7 (by decide) (fun hc7 => ?_) (fun hc7 => ?_)
  · rw [if_pos hc7] at h
    refine lv_iconst (v := -1) hx hb dX11_setPixel_36 (by decide) ?_
    obtain rfl := Option.some.inj h
    exact b_iret hQ hx hb hr hlk hw rfl dX11_setPixel_37
  · rw [if_neg hc7] at h
    refine lv_iload hx hb dX11_setPixel_10 (lv_at hl 4 rfl) ?_
    refine lv_iconst (v := 0) hx hb dX11_setPixel_12 (by decide) ?_
    refine lv_bipush (v := 9) hx hb dX11_setPixel_13 (by decide) ?_
    refine b_callS hx hb hml hown hT hK hA hw mk_X11_86 (c_X11_in l D g i4 (0 : Int32) (9 : Int32)) [] [0] rfl (by decide) rfl hl.1 [] rfl (Nat.le_of_ble_eq_true rfl) ⟨Nat.le_of_ble_eq_true rfl, Nat.le_of_ble_eq_true rfl⟩ ⟨Nat.zero_le _, Nat.zero_le _⟩ dX11_setPixel_15 (wb' := [k_Model g a o pasts length printed told state backX backY boxes frees bestFree bestTurned bestFirst bestSecond v spare past kept isKept text paper left top wide high original turn boxX boxY boxW boxH freeAtX freeAtY freeW freeH begins ends tried aside]) rfl (b_e1 rfl b_e0) 1 rfl (by decide) (st2 := [.int (f_X11_in i4 (0 : Int32) (9 : Int32))]) rfl (fun H locs hw => ?_)
    refine lv_if_eq (tgt := 36) hx hb dX11_setPixel_18 (by decide) (fun hc18 => ?_) (fun hc18 => ?_)
    · rw [if_pos hc18] at h
      refine lv_iconst (v := -1) hx hb dX11_setPixel_36 (by decide) ?_
      obtain rfl := Option.some.inj h
      exact b_iret hQ hx hb hr hlk hw rfl dX11_setPixel_37
    · rw [if_neg hc18] at h
      refine lv_aload_n hx hb dX11_setPixel_21 rfl (lv_at hl 0 rfl) ?_
      refine lv_iload_n hx hb dX11_setPixel_22 rfl (lv_at hl 1 rfl) ?_
      refine lv_iload_n hx hb dX11_setPixel_23 rfl (lv_at hl 2 rfl) ?_
      refine lv_iload_n hx hb dX11_setPixel_24 rfl (lv_at hl 3 rfl) ?_
      refine b_callS hx hb hml hown hT hK hA hw mk_X11_118 (c_X11_pixelAt l D g i1 i2 i3) [] [0] rfl (by decide) rfl hl.1 [.ref (a o)] rfl (Nat.le_of_ble_eq_true rfl) ⟨Nat.le_of_ble_eq_true rfl, Nat.le_of_ble_eq_true rfl⟩ ⟨Nat.zero_le _, Nat.zero_le _⟩ dX11_setPixel_25 (wb' := [k_Model g a o pasts length printed told state backX backY boxes frees bestFree bestTurned bestFirst bestSecond v spare past kept isKept text paper left top wide high original turn boxX boxY boxW boxH freeAtX freeAtY freeW freeH begins ends tried aside]) rfl (b_e1 rfl b_e0) 1 rfl (by decide) (st2 := [.int (f_X11_pixelAt i1 i2 i3), .ref (a o)]) rfl (fun H locs hw => ?_)
      refine lv_iload hx hb dX11_setPixel_28 (lv_at hl 4 rfl) ?_
      obtain ⟨r2, er2, h⟩ := g_cl_some h
      refine b_callV hx hb hml hown hT hK hA hw mk_X11_145 (c_X11_sets l D g a o pasts length printed told state backX backY boxes frees bestFree bestTurned bestFirst bestSecond v spare past kept isKept text paper left top wide high original turn boxX boxY boxW boxH freeAtX freeAtY freeW freeH begins ends tried aside (f_X11_pixelAt i1 i2 i3) i4 r2 er2) [0] [] rfl (by decide) 0 0 rfl rfl rfl rfl hl.1 [] rfl (Nat.le_of_ble_eq_true rfl) ⟨Nat.le_of_ble_eq_true rfl, Nat.le_of_ble_eq_true rfl⟩ ⟨Nat.zero_le _, Nat.zero_le _⟩ dX11_setPixel_30 (wb' := [k_Model g a o r2.2.1 length printed told state backX backY boxes frees bestFree bestTurned bestFirst bestSecond r2.2.2.1 spare r2.2.2.2 kept isKept text paper left top wide high original turn boxX boxY boxW boxH freeAtX freeAtY freeW freeH begins ends tried aside]) rfl b_e0 1 rfl (by decide) (st2 := [.int r2.1]) rfl (fun H locs hw => ?_)
      refine lv_goto (tgt := 37) hx hb dX11_setPixel_33 (by decide) ?_
      obtain rfl := Option.some.inj h
      exact b_iret hQ hx hb hr hlk hw rfl dX11_setPixel_37
set_option maxRecDepth 100000 in
set_option maxHeartbeats 4000000 in
theorem c_X11_drop (l : Launch) (D : va_G) (g : Nat → ClassId) (a : Nat → Nat) (o : Nat) (pasts : Int32) (length : Int32) (printed : Int32) (told : Int32) (state : Int64) (backX : Int32) (backY : Int32) (boxes : Int32) (frees : Int32) (bestFree : Int32) (bestTurned : Int32) (bestFirst : Int32) (bestSecond : Int32) (v : (Nat → Int32)) (spare : (Nat → Int32)) (past : (Nat → Int32)) (kept : (Nat → Int32)) (isKept : (Nat → Int32)) (text : (Nat → Int32)) (paper : (Nat → Int32)) (left : (Nat → Int32)) (top : (Nat → Int32)) (wide : (Nat → Int32)) (high : (Nat → Int32)) (original : (Nat → Int32)) (turn : (Nat → Int32)) (boxX : (Nat → Int32)) (boxY : (Nat → Int32)) (boxW : (Nat → Int32)) (boxH : (Nat → Int32)) (freeAtX : (Nat → Int32)) (freeAtY : (Nat → Int32)) (freeW : (Nat → Int32)) (freeH : (Nat → Int32)) (begins : (Nat → Int32)) (ends : (Nat → Int32)) (tried : (Nat → Int32)) (aside : (Nat → Int32)) (i1 : Int32) (u : Int32 × Int32 × (Nat → Int32) × (Nat → Int32)) (h : f_X11_drop pasts v past i1 = some u) : b_Ct l yX11_drop cX11_drop 3 (some .int) 2 43 D g [.ref (a o), .int i1] [k_Model g a o pasts length printed told state backX backY boxes frees bestFree bestTurned bestFirst bestSecond v spare past kept isKept text paper left top wide high original turn boxX boxY boxW boxH freeAtX freeAtY freeW freeH begins ends tried aside] [k_Model g a o u.2.1 length printed told state backX backY boxes frees bestFree bestTurned bestFirst bestSecond u.2.2.1 spare u.2.2.2 kept isKept text paper left top wide high original turn boxX boxY boxW boxH freeAtX freeAtY freeW freeH begins ends tried aside] (some (.int u.1)) := by
  refine b_start RX11 (by decide) rfl (Nat.le_of_ble_eq_true rfl) rfl ?_
  intro p e s m args below meth c A ls Q hQ hx hb hr hlk hml hown hT hK hA hw hl
  have hl : lv_has ls 3 [(0, .ref (a o)), (1, .int i1)] := hl
  unfold f_X11_drop at h
  refine lv_aload_n hx hb dX11_drop_0 rfl (lv_at hl 0 rfl) ?_
  refine lv_iload_n hx hb dX11_drop_1 rfl (lv_at hl 1 rfl) ?_
  obtain ⟨r1, er1, h⟩ := g_cl_some h
  refine b_callV hx hb hml hown hT hK hA hw mk_X11_138 (c_X11_isSprite l D g a o pasts length printed told state backX backY boxes frees bestFree bestTurned bestFirst bestSecond v spare past kept isKept text paper left top wide high original turn boxX boxY boxW boxH freeAtX freeAtY freeW freeH begins ends tried aside i1 r1 er1) [0] [] rfl (by decide) 0 0 rfl rfl rfl rfl hl.1 [] rfl (Nat.le_of_ble_eq_true rfl) ⟨Nat.le_of_ble_eq_true rfl, Nat.le_of_ble_eq_true rfl⟩ ⟨Nat.zero_le _, Nat.zero_le _⟩ dX11_drop_2 (wb' := [k_Model g a o pasts length printed told state backX backY boxes frees bestFree bestTurned bestFirst bestSecond v spare past kept isKept text paper left top wide high original turn boxX boxY boxW boxH freeAtX freeAtY freeW freeH begins ends tried aside]) rfl b_e0 1 rfl (by decide) (st2 := [.int r1]) rfl (fun H locs hw => ?_)
  refine lv_if_ne (tgt := 10) hx hb dX11_drop_5 (by decide) (fun hc5 => ?_) (fun hc5 => ?_)
  · rw [if_neg hc5] at h
    refine lv_aload_n hx hb dX11_drop_10 rfl (lv_at hl 0 rfl) ?_
    obtain ⟨r2, er2, h⟩ := g_cl_some h
    refine b_callV hx hb hml hown hT hK hA hw mk_X11_98 (c_X11_notes l D g a o pasts length printed told state backX backY boxes frees bestFree bestTurned bestFirst bestSecond v spare past kept isKept text paper left top wide high original turn boxX boxY boxW boxH freeAtX freeAtY freeW freeH begins ends tried aside r2 er2) [0] [] rfl (by decide) 0 0 rfl rfl rfl rfl hl.1 [] rfl (Nat.le_of_ble_eq_true rfl) ⟨Nat.le_of_ble_eq_true rfl, Nat.le_of_ble_eq_true rfl⟩ ⟨Nat.zero_le _, Nat.zero_le _⟩ dX11_drop_11 (wb' := [k_Model g a o r2.1 length printed told state backX backY boxes frees bestFree bestTurned bestFirst bestSecond v spare r2.2 kept isKept text paper left top wide high original turn boxX boxY boxW boxH freeAtX freeAtY freeW freeH begins ends tried aside]) rfl b_e0 1 rfl (by decide) (st2 := []) rfl (fun H locs hw => ?_)
    refine lv_aload_n hx hb dX11_drop_14 rfl (lv_at hl 0 rfl) ?_
    refine b_get hx hb hT hK hown fl_X11_7 hw 0 0 rfl rfl (v := .ref (a (o+1))) rfl dX11_drop_15 ?_
    refine lv_iconst (v := 0) hx hb dX11_drop_18 (by decide) ?_
    refine lv_dup2_11 hx hb dX11_drop_19 rfl rfl ?_
    obtain ⟨x3, ex3, hix3, h⟩ := g_rd_some h
    refine b_iald hx hb hK hw 0 1 rfl (f := v) rfl hix3 ex3 dX11_drop_20 ?_
    refine lv_iconst (v := 1) hx hb dX11_drop_21 (by decide) ?_
    refine lv_isub hx hb dX11_drop_22 ?_
    obtain ⟨x4, ex4, h⟩ := g_bd_nm h
    refine g_topi ex4 ?_
    obtain ⟨f5, ef5, hif5, h⟩ := g_wr_some h
    refine b_iast hx hb hK hw 0 1 rfl (f := v) rfl hif5 ef5 rfl (wb' := [k_Model g a o r2.1 length printed told state backX backY boxes frees bestFree bestTurned bestFirst bestSecond f5 spare r2.2 kept isKept text paper left top wide high original turn boxX boxY boxW boxH freeAtX freeAtY freeW freeH begins ends tried aside]) rfl dX11_drop_23 (fun H locs hw => ?_)
    refine lv_iload_n hx hb dX11_drop_24 rfl (lv_at hl 1 rfl) ?_
    refine lv_iconst (v := 0) hx hb dX11_drop_25 (by decide) ?_
    refine b_callS hx hb hml hown hT hK hA hw mk_X11_94 (c_X11_at l D g i1 (0 : Int32)) [] [0] rfl (by decide) rfl hl.1 [] rfl (Nat.le_of_ble_eq_true rfl) ⟨Nat.le_of_ble_eq_true rfl, Nat.le_of_ble_eq_true rfl⟩ ⟨Nat.zero_le _, Nat.zero_le _⟩ dX11_drop_26 (wb' := [k_Model g a o r2.1 length printed told state backX backY boxes frees bestFree bestTurned bestFirst bestSecond f5 spare r2.2 kept isKept text paper left top wide high original turn boxX boxY boxW boxH freeAtX freeAtY freeW freeH begins ends tried aside]) rfl (b_e1 rfl b_e0) 1 rfl (by decide) (st2 := [.int (f_X11_at i1 (0 : Int32))]) rfl (fun H locs hw => ?_)
    obtain ⟨x6, ex6, h⟩ := g_bd_nm h
    refine g_topi ex6 ?_
    refine lv_istore_n (lv' := [(2, .int x6), (0, .ref (a o)), (1, .int i1)]) hx hb dX11_drop_29 rfl hl (by decide) rfl (fun ls hl => ?_)
    obtain ⟨k65_7, ek65_7, h⟩ := g_jn_nm h
    have hk65_7 : ∀ (f7 : Nat → Int32) (H : Heap) (locs : List Loc) (ls : Array Slot), b_Wd D A s.heap H locs [k_Model g a o r2.1 length printed told state backX backY boxes frees bestFree bestTurned bestFirst bestSecond f7 spare r2.2 kept isKept text paper left top wide high original turn boxX boxY boxW boxH freeAtX freeAtY freeW freeH begins ends tried aside] → lv_has ls 3 [(0, .ref (a o))] → k65_7 f7 = some u → W p l e (g_rm 2 43) s m args below meth c H locs 0 0 Q (F0 m 65 ls []) := by
      intro f7 H locs ls hw hl h
      subst ek65_7
      dsimp only at h
      refine lv_aload_n hx hb dX11_drop_65 rfl (lv_at hl 0 rfl) ?_
      obtain ⟨r9, er9, h⟩ := g_cl_some h
      refine b_callV hx hb hml hown hT hK hA hw mk_X11_101 (c_X11_empties l D g a o r2.1 length printed told state backX backY boxes frees bestFree bestTurned bestFirst bestSecond f7 spare r2.2 kept isKept text paper left top wide high original turn boxX boxY boxW boxH freeAtX freeAtY freeW freeH begins ends tried aside r9 er9) [0] [] rfl (by decide) 0 0 rfl rfl rfl rfl hl.1 [] rfl (Nat.le_of_ble_eq_true rfl) ⟨Nat.le_of_ble_eq_true rfl, Nat.le_of_ble_eq_true rfl⟩ ⟨Nat.zero_le _, Nat.zero_le _⟩ dX11_drop_66 (wb' := [k_Model g a o r2.1 length printed told state backX backY boxes frees bestFree bestTurned bestFirst bestSecond r9 spare r2.2 kept isKept text paper left top wide high original turn boxX boxY boxW boxH freeAtX freeAtY freeW freeH begins ends tried aside]) rfl b_e0 1 rfl (by decide) (st2 := []) rfl (fun H locs hw => ?_)
      refine lv_aload_n hx hb dX11_drop_69 rfl (lv_at hl 0 rfl) ?_
      refine b_get hx hb hT hK hown fl_X11_7 hw 0 0 rfl rfl (v := .ref (a (o+1))) rfl dX11_drop_70 ?_
      refine lv_iconst (v := 0) hx hb dX11_drop_73 (by decide) ?_
      obtain ⟨x10, ex10, hix10, h⟩ := g_rd_some h
      refine b_iald hx hb hK hw 0 1 rfl (f := r9) rfl hix10 ex10 dX11_drop_74 ?_
      obtain rfl := Option.some.inj h
      exact b_iret hQ hx hb hr hlk hw rfl dX11_drop_75
    have hL30 : ∀ (n : Nat) (x11 : Int32) (f12 : Nat → Int32) (H : Heap) (locs : List Loc) (ls : Array Slot), b_Wd D A s.heap H locs [k_Model g a o r2.1 length printed told state backX backY boxes frees bestFree bestTurned bestFirst bestSecond f12 spare r2.2 kept isKept text paper left top wide high original turn boxX boxY boxW boxH freeAtX freeAtY freeW freeH begins ends tried aside] → lv_has ls 3 [(0, .ref (a o)), (2, .int x11)] → f_X11_drop_L30 k65_7 n x11 f12 = some u → W p l e (g_rm 2 43) s m args below meth c H locs 0 0 Q (F0 m 30 ls []) := by
      intro n
      induction n with
      | zero =>
        intro x11 f12 H locs ls hw hl h
        cases (show none = some u from h)
      | succ n ih30 =>
        intro x11 f12 H locs ls hw hl h
        rw [f_X11_drop_L30] at h
        refine lv_iload_n hx hb dX11_drop_30 rfl (lv_at hl 1 rfl) ?_
        refine lv_aload_n hx hb dX11_drop_31 rfl (lv_at hl 0 rfl) ?_
        refine b_get hx hb hT hK hown fl_X11_7 hw 0 0 rfl rfl (v := .ref (a (o+1))) rfl dX11_drop_32 ?_
        refine lv_iconst (v := 0) hx hb dX11_drop_35 (by decide) ?_
        obtain ⟨x13, ex13, hix13, h⟩ := g_rd_some h
        refine b_iald hx hb hK hw 0 1 rfl (f := f12) rfl hix13 ex13 dX11_drop_36 ?_
        refine lv_iconst (v := 0) hx hb dX11_drop_37 (by decide) ?_
        refine b_callS hx hb hml hown hT hK hA hw mk_X11_94 (c_X11_at l D g x13 (0 : Int32)) [] [0] rfl (by decide) rfl hl.1 [.int x11] rfl (Nat.le_of_ble_eq_true rfl) ⟨Nat.le_of_ble_eq_true rfl, Nat.le_of_ble_eq_true rfl⟩ ⟨Nat.zero_le _, Nat.zero_le _⟩ dX11_drop_38 (wb' := [k_Model g a o r2.1 length printed told state backX backY boxes frees bestFree bestTurned bestFirst bestSecond f12 spare r2.2 kept isKept text paper left top wide high original turn boxX boxY boxW boxH freeAtX freeAtY freeW freeH begins ends tried aside]) rfl (b_e1 rfl b_e0) 1 rfl (by decide) (st2 := [.int (f_X11_at x13 (0 : Int32)), .int x11]) rfl (fun H locs hw => ?_)
        refine lv_icmp_ge (tgt := 65) hx hb dX11_drop_41 (by decide) (fun hc41 => ?_) (fun hc41 => ?_)
        · rw [if_pos hc41] at h
          exact hk65_7 f12 _ _ _ hw (lv_sub hl [0] rfl) h
        · rw [if_neg hc41] at h
          refine lv_aload_n hx hb dX11_drop_44 rfl (lv_at hl 0 rfl) ?_
          refine b_get hx hb hT hK hown fl_X11_7 hw 0 0 rfl rfl (v := .ref (a (o+1))) rfl dX11_drop_45 ?_
          refine lv_iload_n hx hb dX11_drop_48 rfl (lv_at hl 1 rfl) ?_
          refine lv_aload_n hx hb dX11_drop_49 rfl (lv_at hl 0 rfl) ?_
          refine b_get hx hb hT hK hown fl_X11_7 hw 0 0 rfl rfl (v := .ref (a (o+1))) rfl dX11_drop_50 ?_
          refine lv_iload_n hx hb dX11_drop_53 rfl (lv_at hl 1 rfl) ?_
          refine lv_bipush (v := 72) hx hb dX11_drop_54 (by decide) ?_
          refine lv_iadd hx hb dX11_drop_56 ?_
          obtain ⟨x14, ex14, hix14, h⟩ := g_rd_some h
          refine b_iald hx hb hK hw 0 1 rfl (f := f12) rfl hix14 ex14 dX11_drop_57 ?_
          obtain ⟨f15, ef15, hif15, h⟩ := g_wr_some h
          refine b_iast hx hb hK hw 0 1 rfl (f := f12) rfl hif15 ef15 rfl (wb' := [k_Model g a o r2.1 length printed told state backX backY boxes frees bestFree bestTurned bestFirst bestSecond f15 spare r2.2 kept isKept text paper left top wide high original turn boxX boxY boxW boxH freeAtX freeAtY freeW freeH begins ends tried aside]) rfl dX11_drop_58 (fun H locs hw => ?_)
          obtain ⟨x16, ex16, h⟩ := g_bd_nm h
          refine lv_iinc (v := x16) (lv' := [(2, .int x16), (0, .ref (a o))]) hx hb dX11_drop_59 hl (k := 1) rfl (by rw [ex16]; rfl) (by decide) rfl (fun ls hl => ?_)
          refine lv_goto (tgt := 30) hx hb dX11_drop_62 (by decide) ?_
          exact ih30 x16 f15 _ _ _ hw (lv_sub hl [1, 0] rfl) h
    exact hL30 g_fuel x6 f5 _ _ _ hw (lv_sub hl [1, 0] rfl) h
  · rw [if_pos hc5] at h
    refine lv_iconst (v := -1) hx hb dX11_drop_8 (by decide) ?_
    obtain rfl := Option.some.inj h
    exact b_iret hQ hx hb hr hlk hw rfl dX11_drop_9
set_option maxRecDepth 100000 in
set_option maxHeartbeats 4000000 in
theorem c_X11_setGroup (l : Launch) (D : va_G) (g : Nat → ClassId) (a : Nat → Nat) (o : Nat) (pasts : Int32) (length : Int32) (printed : Int32) (told : Int32) (state : Int64) (backX : Int32) (backY : Int32) (boxes : Int32) (frees : Int32) (bestFree : Int32) (bestTurned : Int32) (bestFirst : Int32) (bestSecond : Int32) (v : (Nat → Int32)) (spare : (Nat → Int32)) (past : (Nat → Int32)) (kept : (Nat → Int32)) (isKept : (Nat → Int32)) (text : (Nat → Int32)) (paper : (Nat → Int32)) (left : (Nat → Int32)) (top : (Nat → Int32)) (wide : (Nat → Int32)) (high : (Nat → Int32)) (original : (Nat → Int32)) (turn : (Nat → Int32)) (boxX : (Nat → Int32)) (boxY : (Nat → Int32)) (boxW : (Nat → Int32)) (boxH : (Nat → Int32)) (freeAtX : (Nat → Int32)) (freeAtY : (Nat → Int32)) (freeW : (Nat → Int32)) (freeH : (Nat → Int32)) (begins : (Nat → Int32)) (ends : (Nat → Int32)) (tried : (Nat → Int32)) (aside : (Nat → Int32)) (i1 : Int32) (i2 : Int32) (u : Int32 × Int32 × (Nat → Int32) × (Nat → Int32)) (h : f_X11_setGroup pasts v past i1 i2 = some u) : b_Ct l yX11_setGroup cX11_setGroup 4 (some .int) 2 43 D g [.ref (a o), .int i1, .int i2] [k_Model g a o pasts length printed told state backX backY boxes frees bestFree bestTurned bestFirst bestSecond v spare past kept isKept text paper left top wide high original turn boxX boxY boxW boxH freeAtX freeAtY freeW freeH begins ends tried aside] [k_Model g a o u.2.1 length printed told state backX backY boxes frees bestFree bestTurned bestFirst bestSecond u.2.2.1 spare u.2.2.2 kept isKept text paper left top wide high original turn boxX boxY boxW boxH freeAtX freeAtY freeW freeH begins ends tried aside] (some (.int u.1)) := by
  refine b_start RX11 (by decide) rfl (Nat.le_of_ble_eq_true rfl) rfl ?_
  intro p e s m args below meth c A ls Q hQ hx hb hr hlk hml hown hT hK hA hw hl
  have hl : lv_has ls 4 [(0, .ref (a o)), (1, .int i1), (2, .int i2)] := hl
  unfold f_X11_setGroup at h
  refine lv_aload_n hx hb dX11_setGroup_0 rfl (lv_at hl 0 rfl) ?_
  refine lv_iload_n hx hb dX11_setGroup_1 rfl (lv_at hl 1 rfl) ?_
  obtain ⟨r1, er1, h⟩ := g_cl_some h
  refine b_callV hx hb hml hown hT hK hA hw mk_X11_138 (c_X11_isSprite l D g a o pasts length printed told state backX backY boxes frees bestFree bestTurned bestFirst bestSecond v spare past kept isKept text paper left top wide high original turn boxX boxY boxW boxH freeAtX freeAtY freeW freeH begins ends tried aside i1 r1 er1) [0] [] rfl (by decide) 0 0 rfl rfl rfl rfl hl.1 [] rfl (Nat.le_of_ble_eq_true rfl) ⟨Nat.le_of_ble_eq_true rfl, Nat.le_of_ble_eq_true rfl⟩ ⟨Nat.zero_le _, Nat.zero_le _⟩ dX11_setGroup_2 (wb' := [k_Model g a o pasts length printed told state backX backY boxes frees bestFree bestTurned bestFirst bestSecond v spare past kept isKept text paper left top wide high original turn boxX boxY boxW boxH freeAtX freeAtY freeW freeH begins ends tried aside]) rfl b_e0 1 rfl (by decide) (st2 := [.int r1]) rfl (fun H locs hw => ?_)
  refine lv_if_eq (tgt := 17) hx hb dX11_setGroup_5 (by decide) (fun hc5 => ?_) (fun hc5 => ?_)
  · rw [if_pos hc5] at h
    refine lv_iconst (v := -1) hx hb dX11_setGroup_17 (by decide) ?_
    obtain rfl := Option.some.inj h
    exact b_iret hQ hx hb hr hlk hw rfl dX11_setGroup_18
  · rw [if_neg hc5] at h
    refine lv_iload_n hx hb dX11_setGroup_8 rfl (lv_at hl 2 rfl) ?_
    refine lv_iconst (v := 0) hx hb dX11_setGroup_9 (by decide) ?_
    refine lv_iconst (v := 3) hx hb dX11_setGroup_10 (by decide) ?_
    refine b_callS hx hb hml hown hT hK hA hw mk_X11_86 (c_X11_in l D g i2 (0 : Int32) (3 : Int32)) [] [0] rfl (by decide) rfl hl.1 [] rfl (Nat.le_of_ble_eq_true rfl) ⟨Nat.le_of_ble_eq_true rfl, Nat.le_of_ble_eq_true rfl⟩ ⟨Nat.zero_le _, Nat.zero_le _⟩ dX11_setGroup_11 (wb' := [k_Model g a o pasts length printed told state backX backY boxes frees bestFree bestTurned bestFirst bestSecond v spare past kept isKept text paper left top wide high original turn boxX boxY boxW boxH freeAtX freeAtY freeW freeH begins ends tried aside]) rfl (b_e1 rfl b_e0) 1 rfl (by decide) (st2 := [.int (f_X11_in i2 (0 : Int32) (3 : Int32))]) rfl (fun H locs hw => ?_)
    refine lv_if_ne (tgt := 19) hx hb dX11_setGroup_14 (by decide) (fun hc14 => ?_) (fun hc14 => ?_)
    · rw [if_neg hc14] at h
      refine lv_aload_n hx hb dX11_setGroup_19 rfl (lv_at hl 0 rfl) ?_
      obtain ⟨r2, er2, h⟩ := g_cl_some h
      refine b_callV hx hb hml hown hT hK hA hw mk_X11_98 (c_X11_notes l D g a o pasts length printed told state backX backY boxes frees bestFree bestTurned bestFirst bestSecond v spare past kept isKept text paper left top wide high original turn boxX boxY boxW boxH freeAtX freeAtY freeW freeH begins ends tried aside r2 er2) [0] [] rfl (by decide) 0 0 rfl rfl rfl rfl hl.1 [] rfl (Nat.le_of_ble_eq_true rfl) ⟨Nat.le_of_ble_eq_true rfl, Nat.le_of_ble_eq_true rfl⟩ ⟨Nat.zero_le _, Nat.zero_le _⟩ dX11_setGroup_20 (wb' := [k_Model g a o r2.1 length printed told state backX backY boxes frees bestFree bestTurned bestFirst bestSecond v spare r2.2 kept isKept text paper left top wide high original turn boxX boxY boxW boxH freeAtX freeAtY freeW freeH begins ends tried aside]) rfl b_e0 1 rfl (by decide) (st2 := []) rfl (fun H locs hw => ?_)
      refine lv_aload_n hx hb dX11_setGroup_23 rfl (lv_at hl 0 rfl) ?_
      refine b_get hx hb hT hK hown fl_X11_7 hw 0 0 rfl rfl (v := .ref (a (o+1))) rfl dX11_setGroup_24 ?_
      refine lv_iload_n hx hb dX11_setGroup_27 rfl (lv_at hl 1 rfl) ?_
      refine lv_iconst (v := 2) hx hb dX11_setGroup_28 (by decide) ?_
      refine b_callS hx hb hml hown hT hK hA hw mk_X11_94 (c_X11_at l D g i1 (2 : Int32)) [] [0] rfl (by decide) rfl hl.1 [.ref (a (o+1))] rfl (Nat.le_of_ble_eq_true rfl) ⟨Nat.le_of_ble_eq_true rfl, Nat.le_of_ble_eq_true rfl⟩ ⟨Nat.zero_le _, Nat.zero_le _⟩ dX11_setGroup_29 (wb' := [k_Model g a o r2.1 length printed told state backX backY boxes frees bestFree bestTurned bestFirst bestSecond v spare r2.2 kept isKept text paper left top wide high original turn boxX boxY boxW boxH freeAtX freeAtY freeW freeH begins ends tried aside]) rfl (b_e1 rfl b_e0) 1 rfl (by decide) (st2 := [.int (f_X11_at i1 (2 : Int32)), .ref (a (o+1))]) rfl (fun H locs hw => ?_)
      obtain ⟨x3, ex3, hix3, h⟩ := g_rd_some h
      refine b_iald hx hb hK hw 0 1 rfl (f := v) rfl hix3 ex3 dX11_setGroup_32 ?_
      refine lv_istore_n (lv' := [(3, .int x3), (0, .ref (a o)), (1, .int i1), (2, .int i2)]) hx hb dX11_setGroup_33 rfl hl (by decide) rfl (fun ls hl => ?_)
      refine lv_aload_n hx hb dX11_setGroup_34 rfl (lv_at hl 1 rfl) ?_
      refine b_get hx hb hT hK hown fl_X11_7 hw 0 0 rfl rfl (v := .ref (a (o+1))) rfl dX11_setGroup_35 ?_
      refine lv_iload_n hx hb dX11_setGroup_38 rfl (lv_at hl 2 rfl) ?_
      refine lv_iconst (v := 2) hx hb dX11_setGroup_39 (by decide) ?_
      refine b_callS hx hb hml hown hT hK hA hw mk_X11_94 (c_X11_at l D g i1 (2 : Int32)) [] [0] rfl (by decide) rfl hl.1 [.ref (a (o+1))] rfl (Nat.le_of_ble_eq_true rfl) ⟨Nat.le_of_ble_eq_true rfl, Nat.le_of_ble_eq_true rfl⟩ ⟨Nat.zero_le _, Nat.zero_le _⟩ dX11_setGroup_40 (wb' := [k_Model g a o r2.1 length printed told state backX backY boxes frees bestFree bestTurned bestFirst bestSecond v spare r2.2 kept isKept text paper left top wide high original turn boxX boxY boxW boxH freeAtX freeAtY freeW freeH begins ends tried aside]) rfl (b_e1 rfl b_e0) 1 rfl (by decide) (st2 := [.int (f_X11_at i1 (2 : Int32)), .ref (a (o+1))]) rfl (fun H locs hw => ?_)
      refine lv_iload_n hx hb dX11_setGroup_43 rfl (lv_at hl 3 rfl) ?_
      obtain ⟨f4, ef4, hif4, h⟩ := g_wr_some h
      refine b_iast hx hb hK hw 0 1 rfl (f := v) rfl hif4 ef4 rfl (wb' := [k_Model g a o r2.1 length printed told state backX backY boxes frees bestFree bestTurned bestFirst bestSecond f4 spare r2.2 kept isKept text paper left top wide high original turn boxX boxY boxW boxH freeAtX freeAtY freeW freeH begins ends tried aside]) rfl dX11_setGroup_44 (fun H locs hw => ?_)
      refine lv_iload_n hx hb dX11_setGroup_45 rfl (lv_at hl 0 rfl) ?_
      obtain rfl := Option.some.inj h
      exact b_iret hQ hx hb hr hlk hw rfl dX11_setGroup_46
    · rw [if_pos hc14] at h
      refine lv_iconst (v := -1) hx hb dX11_setGroup_17 (by decide) ?_
      obtain rfl := Option.some.inj h
      exact b_iret hQ hx hb hr hlk hw rfl dX11_setGroup_18
set_option maxRecDepth 100000 in
set_option maxHeartbeats 4000000 in
theorem c_X11_groupOf (l : Launch) (D : va_G) (g : Nat → ClassId) (a : Nat → Nat) (o : Nat) (pasts : Int32) (length : Int32) (printed : Int32) (told : Int32) (state : Int64) (backX : Int32) (backY : Int32) (boxes : Int32) (frees : Int32) (bestFree : Int32) (bestTurned : Int32) (bestFirst : Int32) (bestSecond : Int32) (v : (Nat → Int32)) (spare : (Nat → Int32)) (past : (Nat → Int32)) (kept : (Nat → Int32)) (isKept : (Nat → Int32)) (text : (Nat → Int32)) (paper : (Nat → Int32)) (left : (Nat → Int32)) (top : (Nat → Int32)) (wide : (Nat → Int32)) (high : (Nat → Int32)) (original : (Nat → Int32)) (turn : (Nat → Int32)) (boxX : (Nat → Int32)) (boxY : (Nat → Int32)) (boxW : (Nat → Int32)) (boxH : (Nat → Int32)) (freeAtX : (Nat → Int32)) (freeAtY : (Nat → Int32)) (freeW : (Nat → Int32)) (freeH : (Nat → Int32)) (begins : (Nat → Int32)) (ends : (Nat → Int32)) (tried : (Nat → Int32)) (aside : (Nat → Int32)) (i1 : Int32) (u : Int32) (h : f_X11_groupOf v i1 = some u) : b_Ct l yX11_groupOf cX11_groupOf 2 (some .int) 2 43 D g [.ref (a o), .int i1] [k_Model g a o pasts length printed told state backX backY boxes frees bestFree bestTurned bestFirst bestSecond v spare past kept isKept text paper left top wide high original turn boxX boxY boxW boxH freeAtX freeAtY freeW freeH begins ends tried aside] [k_Model g a o pasts length printed told state backX backY boxes frees bestFree bestTurned bestFirst bestSecond v spare past kept isKept text paper left top wide high original turn boxX boxY boxW boxH freeAtX freeAtY freeW freeH begins ends tried aside] (some (.int u)) := by
  refine b_start RX11 (by decide) rfl (Nat.le_of_ble_eq_true rfl) rfl ?_
  intro p e s m args below meth c A ls Q hQ hx hb hr hlk hml hown hT hK hA hw hl
  have hl : lv_has ls 2 [(0, .ref (a o)), (1, .int i1)] := hl
  unfold f_X11_groupOf at h
  refine lv_aload_n hx hb dX11_groupOf_0 rfl (lv_at hl 0 rfl) ?_
  refine lv_iload_n hx hb dX11_groupOf_1 rfl (lv_at hl 1 rfl) ?_
  obtain ⟨r1, er1, h⟩ := g_cl_some h
  refine b_callV hx hb hml hown hT hK hA hw mk_X11_138 (c_X11_isSprite l D g a o pasts length printed told state backX backY boxes frees bestFree bestTurned bestFirst bestSecond v spare past kept isKept text paper left top wide high original turn boxX boxY boxW boxH freeAtX freeAtY freeW freeH begins ends tried aside i1 r1 er1) [0] [] rfl (by decide) 0 0 rfl rfl rfl rfl hl.1 [] rfl (Nat.le_of_ble_eq_true rfl) ⟨Nat.le_of_ble_eq_true rfl, Nat.le_of_ble_eq_true rfl⟩ ⟨Nat.zero_le _, Nat.zero_le _⟩ dX11_groupOf_2 (wb' := [k_Model g a o pasts length printed told state backX backY boxes frees bestFree bestTurned bestFirst bestSecond v spare past kept isKept text paper left top wide high original turn boxX boxY boxW boxH freeAtX freeAtY freeW freeH begins ends tried aside]) rfl b_e0 1 rfl (by decide) (st2 := [.int r1]) rfl (fun H locs hw => ?_)
  refine lv_if_eq (tgt := 21) hx hb dX11_groupOf_5 (by decide) (fun hc5 => ?_) (fun hc5 => ?_)
  · rw [if_pos hc5] at h
    refine lv_iconst (v := -1) hx hb dX11_groupOf_21 (by decide) ?_
    obtain rfl := Option.some.inj h
    exact b_iret hQ hx hb hr hlk hw rfl dX11_groupOf_22
  · rw [if_neg hc5] at h
    refine lv_aload_n hx hb dX11_groupOf_8 rfl (lv_at hl 0 rfl) ?_
    refine b_get hx hb hT hK hown fl_X11_7 hw 0 0 rfl rfl (v := .ref (a (o+1))) rfl dX11_groupOf_9 ?_
    refine lv_iload_n hx hb dX11_groupOf_12 rfl (lv_at hl 1 rfl) ?_
    refine lv_iconst (v := 2) hx hb dX11_groupOf_13 (by decide) ?_
    refine b_callS hx hb hml hown hT hK hA hw mk_X11_94 (c_X11_at l D g i1 (2 : Int32)) [] [0] rfl (by decide) rfl hl.1 [.ref (a (o+1))] rfl (Nat.le_of_ble_eq_true rfl) ⟨Nat.le_of_ble_eq_true rfl, Nat.le_of_ble_eq_true rfl⟩ ⟨Nat.zero_le _, Nat.zero_le _⟩ dX11_groupOf_14 (wb' := [k_Model g a o pasts length printed told state backX backY boxes frees bestFree bestTurned bestFirst bestSecond v spare past kept isKept text paper left top wide high original turn boxX boxY boxW boxH freeAtX freeAtY freeW freeH begins ends tried aside]) rfl (b_e1 rfl b_e0) 1 rfl (by decide) (st2 := [.int (f_X11_at i1 (2 : Int32)), .ref (a (o+1))]) rfl (fun H locs hw => ?_)
    obtain ⟨x2, ex2, hix2, h⟩ := g_rd_some h
    refine b_iald hx hb hK hw 0 1 rfl (f := v) rfl hix2 ex2 dX11_groupOf_17 ?_
    refine lv_goto (tgt := 22) hx hb dX11_groupOf_18 (by decide) ?_
    obtain rfl := Option.some.inj h
    exact b_iret hQ hx hb hr hlk hw rfl dX11_groupOf_22
