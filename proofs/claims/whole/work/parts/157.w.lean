set_option maxRecDepth 100000 in
set_option maxHeartbeats 4000000 in
theorem c_X11_word (l : Launch) (D : va_G) (g : Nat → ClassId) (a : Nat → Nat) (o : Nat) (pasts : Int32) (length : Int32) (printed : Int32) (told : Int32) (state : Int64) (backX : Int32) (backY : Int32) (boxes : Int32) (frees : Int32) (bestFree : Int32) (bestTurned : Int32) (bestFirst : Int32) (bestSecond : Int32) (v : (Nat → Int32)) (spare : (Nat → Int32)) (past : (Nat → Int32)) (kept : (Nat → Int32)) (isKept : (Nat → Int32)) (text : (Nat → Int32)) (paper : (Nat → Int32)) (left : (Nat → Int32)) (top : (Nat → Int32)) (wide : (Nat → Int32)) (high : (Nat → Int32)) (original : (Nat → Int32)) (turn : (Nat → Int32)) (boxX : (Nat → Int32)) (boxY : (Nat → Int32)) (boxW : (Nat → Int32)) (boxH : (Nat → Int32)) (freeAtX : (Nat → Int32)) (freeAtY : (Nat → Int32)) (freeW : (Nat → Int32)) (freeH : (Nat → Int32)) (begins : (Nat → Int32)) (ends : (Nat → Int32)) (tried : (Nat → Int32)) (aside : (Nat → Int32)) (i1 : Int64) (i2 : Int64) (u : Int32 × (Nat → Int32)) (h : f_X11_word printed paper i1 i2 = some u) : b_Ct l yX11_word cX11_word 7 none 1 21 D g [.ref (a o), .long i1, .long i2] [k_Model g a o pasts length printed told state backX backY boxes frees bestFree bestTurned bestFirst bestSecond v spare past kept isKept text paper left top wide high original turn boxX boxY boxW boxH freeAtX freeAtY freeW freeH begins ends tried aside] [k_Model g a o pasts length u.1 told state backX backY boxes frees bestFree bestTurned bestFirst bestSecond v spare past kept isKept text u.2 left top wide high original turn boxX boxY boxW boxH freeAtX freeAtY freeW freeH begins ends tried aside] none := by
  refine b_start RX11 (by decide) rfl (Nat.le_of_ble_eq_true rfl) rfl ?_
  intro p e s m args below meth c A ls Q hQ hx hb hr hlk hml hown hT hK hA hw hl
  have hl : lv_has ls 7 [(0, .ref (a o)), (1, .long i1), (3, .long i2)] := hl
  unfold f_X11_word at h
  refine lv_aload_n hx hb dX11_word_0 rfl (lv_at hl 0 rfl) ?_
  refine lv_bipush (v := 32) hx hb dX11_word_1 (by decide) ?_
  obtain ⟨r1, er1, h⟩ := g_cl_some h
  refine b_callV hx hb hml hown hT hK hA hw mk_X11_310 (c_X11_sign l D g a o pasts length printed told state backX backY boxes frees bestFree bestTurned bestFirst bestSecond v spare past kept isKept text paper left top wide high original turn boxX boxY boxW boxH freeAtX freeAtY freeW freeH begins ends tried aside (32 : Int32) r1 er1) [0] [] rfl (by decide) 0 0 rfl rfl rfl rfl hl.1 [] rfl (Nat.le_of_ble_eq_true rfl) ⟨Nat.le_of_ble_eq_true rfl, Nat.le_of_ble_eq_true rfl⟩ ⟨Nat.zero_le _, Nat.zero_le _⟩ dX11_word_3 (wb' := [k_Model g a o pasts length r1.1 told state backX backY boxes frees bestFree bestTurned bestFirst bestSecond v spare past kept isKept text r1.2 left top wide high original turn boxX boxY boxW boxH freeAtX freeAtY freeW freeH begins ends tried aside]) rfl b_e0 1 rfl (by decide) (st2 := []) rfl (fun H locs hw => ?_)
  refine lv_iconst (v := 0) hx hb dX11_word_6 (by decide) ?_
  refine lv_istore (lv' := [(5, .int (0 : Int32)), (0, .ref (a o)), (1, .long i1), (3, .long i2)]) hx hb dX11_word_7 hl (by decide) rfl (fun ls hl => ?_)
  have hL9 : ∀ (n : Nat) (x2 : Int32) (x3 : Int32) (f4 : Nat → Int32) (H : Heap) (locs : List Loc) (ls : Array Slot), b_Wd D A s.heap H locs [k_Model g a o pasts length x3 told state backX backY boxes frees bestFree bestTurned bestFirst bestSecond v spare past kept isKept text f4 left top wide high original turn boxX boxY boxW boxH freeAtX freeAtY freeW freeH begins ends tried aside] → lv_has ls 7 [(0, .ref (a o)), (1, .long i1), (3, .long i2), (5, .int x2)] → f_X11_word_L9 i1 i2 n x2 x3 f4 = some u → W p l e (g_rm 1 21) s m args below meth c H locs 0 0 Q (F0 m 9 ls []) := by
    intro n
    induction n with
    | zero =>
      intro x2 x3 f4 H locs ls hw hl h
      cases (show none = some u from h)
    | succ n ih9 =>
      intro x2 x3 f4 H locs ls hw hl h
      rw [f_X11_word_L9] at h
      refine lv_iload hx hb dX11_word_9 (lv_at hl 3 rfl) ?_
      refine lv_bipush (v := 16) hx hb dX11_word_11 (by decide) ?_
      refine lv_icmp_ge (tgt := 64) hx hb dX11_word_13 (by decide) (fun hc13 => ?_) (fun hc13 => ?_)
      · rw [if_pos hc13] at h
        obtain rfl := Option.some.inj h
        exact b_vret hQ hx hb hr hlk hw rfl dX11_word_64
      · rw [if_neg hc13] at h
        refine lv_iload hx hb dX11_word_16 (lv_at hl 3 rfl) ?_
        refine lv_bipush (v := 8) hx hb dX11_word_18 (by decide) ?_
        obtain ⟨j28_5, ej28_5, h⟩ := g_bd_k h
        have hj28_5 : ∀ (y5 : Int64) (H : Heap) (locs : List Loc) (ls : Array Slot), b_Wd D A s.heap H locs [k_Model g a o pasts length x3 told state backX backY boxes frees bestFree bestTurned bestFirst bestSecond v spare past kept isKept text f4 left top wide high original turn boxX boxY boxW boxH freeAtX freeAtY freeW freeH begins ends tried aside] → lv_has ls 7 [(0, .ref (a o)), (1, .long i1), (3, .long i2), (5, .int x2)] → j28_5 y5 = some u → W p l e (g_rm 1 21) s m args below meth c H locs 0 0 Q (F0 m 28 ls [.long y5]) := by
          intro y5 H locs ls hw hl h
          subst ej28_5
          dsimp only at h
          refine lv_bipush (v := 56) hx hb dX11_word_28 (by decide) ?_
          refine lv_bipush (v := 8) hx hb dX11_word_30 (by decide) ?_
          refine lv_iload hx hb dX11_word_32 (lv_at hl 3 rfl) ?_
          refine lv_bipush (v := 8) hx hb dX11_word_34 (by decide) ?_
          refine g_irem hx hb dX11_word_36 (by decide) ?_
          refine lv_imul hx hb dX11_word_37 ?_
          refine lv_isub hx hb dX11_word_38 ?_
          refine g_lshrR hx hb dX11_word_39 ?_
          refine lv_l2i hx hb dX11_word_40 rfl ?_
          refine lv_sipush (v := 255) hx hb dX11_word_41 (by decide) ?_
          refine lv_iand hx hb dX11_word_44 ?_
          obtain ⟨x6, ex6, h⟩ := g_bd_nm h
          refine g_topi ex6 ?_
          refine lv_istore (lv' := [(6, .int x6), (0, .ref (a o)), (1, .long i1), (3, .long i2), (5, .int x2)]) hx hb dX11_word_45 hl (by decide) rfl (fun ls hl => ?_)
          refine lv_iload hx hb dX11_word_47 (lv_at hl 0 rfl) ?_
          obtain ⟨j58_8, ej58_8, h⟩ := g_jn_nm h
          have hj58_8 : ∀ (x7 : Int32) (f8 : Nat → Int32) (H : Heap) (locs : List Loc) (ls : Array Slot), b_Wd D A s.heap H locs [k_Model g a o pasts length x7 told state backX backY boxes frees bestFree bestTurned bestFirst bestSecond v spare past kept isKept text f8 left top wide high original turn boxX boxY boxW boxH freeAtX freeAtY freeW freeH begins ends tried aside] → lv_has ls 7 [(0, .ref (a o)), (1, .long i1), (3, .long i2), (5, .int x2)] → j58_8 x7 f8 = some u → W p l e (g_rm 1 21) s m args below meth c H locs 0 0 Q (F0 m 58 ls []) := by
            intro x7 f8 H locs ls hw hl h
            subst ej58_8
            dsimp only at h
            obtain ⟨x10, ex10, h⟩ := g_bd_nm h
            refine lv_iinc (v := x10) (lv' := [(5, .int x10), (0, .ref (a o)), (1, .long i1), (3, .long i2)]) hx hb dX11_word_58 hl (k := 3) rfl (by rw [ex10]; rfl) (by decide) rfl (fun ls hl => ?_)
            refine lv_goto (tgt := 9) hx hb dX11_word_61 (by decide) ?_
            exact ih9 x10 x7 f8 _ _ _ hw (lv_sub hl [1, 2, 3, 0] rfl) h
          refine lv_if_eq (tgt := 58) hx hb dX11_word_49 (by decide) (fun hc49 => ?_) (fun hc49 => ?_)
          · rw [if_pos hc49] at h
            exact hj58_8 x3 f4 _ _ _ hw (lv_sub hl [1, 2, 3, 4] rfl) h
          · rw [if_neg hc49] at h
            refine lv_aload_n hx hb dX11_word_52 rfl (lv_at hl 1 rfl) ?_
            refine lv_iload hx hb dX11_word_53 (lv_at hl 0 rfl) ?_
            obtain ⟨r11, er11, h⟩ := g_cl_some h
            refine b_callV hx hb hml hown hT hK hA hw mk_X11_310 (c_X11_sign l D g a o pasts length x3 told state backX backY boxes frees bestFree bestTurned bestFirst bestSecond v spare past kept isKept text f4 left top wide high original turn boxX boxY boxW boxH freeAtX freeAtY freeW freeH begins ends tried aside x6 r11 er11) [0] [] rfl (by decide) 0 0 rfl rfl rfl rfl hl.1 [] rfl (Nat.le_of_ble_eq_true rfl) ⟨Nat.le_of_ble_eq_true rfl, Nat.le_of_ble_eq_true rfl⟩ ⟨Nat.zero_le _, Nat.zero_le _⟩ dX11_word_55 (wb' := [k_Model g a o pasts length r11.1 told state backX backY boxes frees bestFree bestTurned bestFirst bestSecond v spare past kept isKept text r11.2 left top wide high original turn boxX boxY boxW boxH freeAtX freeAtY freeW freeH begins ends tried aside]) rfl b_e0 1 rfl (by decide) (st2 := []) rfl (fun H locs hw => ?_)
            exact hj58_8 r11.1 r11.2 _ _ _ hw (lv_sub hl [1, 2, 3, 4] rfl) h
        refine lv_icmp_ge (tgt := 27) hx hb dX11_word_20 (by decide) (fun hc20 => ?_) (fun hc20 => ?_)
        · rw [if_pos hc20] at h
          refine lv_lload_n hx hb dX11_word_27 rfl (lv_at hl 2 rfl) ?_
          exact hj28_5 i2 _ _ _ hw (lv_sub hl [0, 1, 2, 3] rfl) h
        · rw [if_neg hc20] at h
          refine lv_lload_n hx hb dX11_word_23 rfl (lv_at hl 1 rfl) ?_
          refine lv_goto (tgt := 28) hx hb dX11_word_24 (by decide) ?_
          exact hj28_5 i1 _ _ _ hw (lv_sub hl [0, 1, 2, 3] rfl) h
  exact hL9 g_fuel (0 : Int32) r1.1 r1.2 _ _ _ hw (lv_sub hl [1, 2, 3, 0] rfl) h
set_option maxRecDepth 100000 in
set_option maxHeartbeats 4000000 in
theorem c_X11_printsPlace (l : Launch) (D : va_G) (g : Nat → ClassId) (a : Nat → Nat) (o : Nat) (pasts : Int32) (length : Int32) (printed : Int32) (told : Int32) (state : Int64) (backX : Int32) (backY : Int32) (boxes : Int32) (frees : Int32) (bestFree : Int32) (bestTurned : Int32) (bestFirst : Int32) (bestSecond : Int32) (v : (Nat → Int32)) (spare : (Nat → Int32)) (past : (Nat → Int32)) (kept : (Nat → Int32)) (isKept : (Nat → Int32)) (text : (Nat → Int32)) (paper : (Nat → Int32)) (left : (Nat → Int32)) (top : (Nat → Int32)) (wide : (Nat → Int32)) (high : (Nat → Int32)) (original : (Nat → Int32)) (turn : (Nat → Int32)) (boxX : (Nat → Int32)) (boxY : (Nat → Int32)) (boxW : (Nat → Int32)) (boxH : (Nat → Int32)) (freeAtX : (Nat → Int32)) (freeAtY : (Nat → Int32)) (freeW : (Nat → Int32)) (freeH : (Nat → Int32)) (begins : (Nat → Int32)) (ends : (Nat → Int32)) (tried : (Nat → Int32)) (aside : (Nat → Int32)) (i1 : Int32) (i2 : Int32) (u : Int32 × Int32 × Int32 × (Nat → Int32)) (h : f_X11_printsPlace printed backX backY v paper left top wide high i1 i2 = some u) : b_Ct l yX11_printsPlace cX11_printsPlace 3 none 4 104 D g [.ref (a o), .int i1, .int i2] [k_Model g a o pasts length printed told state backX backY boxes frees bestFree bestTurned bestFirst bestSecond v spare past kept isKept text paper left top wide high original turn boxX boxY boxW boxH freeAtX freeAtY freeW freeH begins ends tried aside] [k_Model g a o pasts length u.1 told state u.2.1 u.2.2.1 boxes frees bestFree bestTurned bestFirst bestSecond v spare past kept isKept text u.2.2.2 left top wide high original turn boxX boxY boxW boxH freeAtX freeAtY freeW freeH begins ends tried aside] none := by
  refine b_start RX11 (by decide) rfl (Nat.le_of_ble_eq_true rfl) rfl ?_
  intro p e s m args below meth c A ls Q hQ hx hb hr hlk hml hown hT hK hA hw hl
  have hl : lv_has ls 3 [(0, .ref (a o)), (1, .int i1), (2, .int i2)] := hl
  unfold f_X11_printsPlace at h
  refine lv_aload_n hx hb dX11_printsPlace_0 rfl (lv_at hl 0 rfl) ?_
  refine lv_ldc2 hx hb hown (hT _ kc_X11_313) dX11_printsPlace_1 ?_
  refine lv_lconst (v := 0) hx hb dX11_printsPlace_4 (by decide) ?_
  obtain ⟨r1, er1, h⟩ := g_cl_some h
  refine b_callV hx hb hml hown hT hK hA hw mk_X11_315 (c_X11_word l D g a o pasts length printed told state backX backY boxes frees bestFree bestTurned bestFirst bestSecond v spare past kept isKept text paper left top wide high original turn boxX boxY boxW boxH freeAtX freeAtY freeW freeH begins ends tried aside (8097867289015091200 : Int64) (0 : Int64) r1 er1) [0] [] rfl (by decide) 0 0 rfl rfl rfl rfl hl.1 [] rfl (Nat.le_of_ble_eq_true rfl) ⟨Nat.le_of_ble_eq_true rfl, Nat.le_of_ble_eq_true rfl⟩ ⟨Nat.zero_le _, Nat.zero_le _⟩ dX11_printsPlace_5 (wb' := [k_Model g a o pasts length r1.1 told state backX backY boxes frees bestFree bestTurned bestFirst bestSecond v spare past kept isKept text r1.2 left top wide high original turn boxX boxY boxW boxH freeAtX freeAtY freeW freeH begins ends tried aside]) rfl b_e0 1 rfl (by decide) (st2 := []) rfl (fun H locs hw => ?_)
  refine lv_aload_n hx hb dX11_printsPlace_8 rfl (lv_at hl 0 rfl) ?_
  refine lv_aload_n hx hb dX11_printsPlace_9 rfl (lv_at hl 0 rfl) ?_
  refine b_get hx hb hT hK hown fl_X11_7 hw 0 0 rfl rfl (v := .ref (a (o+1))) rfl dX11_printsPlace_10 ?_
  refine lv_iload_n hx hb dX11_printsPlace_13 rfl (lv_at hl 2 rfl) ?_
  refine lv_iconst (v := 3) hx hb dX11_printsPlace_14 (by decide) ?_
  refine b_callS hx hb hml hown hT hK hA hw mk_X11_94 (c_X11_at l D g i2 (3 : Int32)) [] [0] rfl (by decide) rfl hl.1 [.ref (a (o+1)), .ref (a o)] rfl (Nat.le_of_ble_eq_true rfl) ⟨Nat.le_of_ble_eq_true rfl, Nat.le_of_ble_eq_true rfl⟩ ⟨Nat.zero_le _, Nat.zero_le _⟩ dX11_printsPlace_15 (wb' := [k_Model g a o pasts length r1.1 told state backX backY boxes frees bestFree bestTurned bestFirst bestSecond v spare past kept isKept text r1.2 left top wide high original turn boxX boxY boxW boxH freeAtX freeAtY freeW freeH begins ends tried aside]) rfl (b_e1 rfl b_e0) 1 rfl (by decide) (st2 := [.int (f_X11_at i2 (3 : Int32)), .ref (a (o+1)), .ref (a o)]) rfl (fun H locs hw => ?_)
  obtain ⟨x2, ex2, hix2, h⟩ := g_rd_some h
  refine b_iald hx hb hK hw 0 1 rfl (f := v) rfl hix2 ex2 dX11_printsPlace_18 ?_
  obtain ⟨r3, er3, h⟩ := g_cl_some h
  refine b_callV hx hb hml hown hT hK hA hw mk_X11_319 (c_X11_number l D g a o pasts length r1.1 told state backX backY boxes frees bestFree bestTurned bestFirst bestSecond v spare past kept isKept text r1.2 left top wide high original turn boxX boxY boxW boxH freeAtX freeAtY freeW freeH begins ends tried aside x2 r3 er3) [0] [] rfl (by decide) 0 0 rfl rfl rfl rfl hl.1 [] rfl (Nat.le_of_ble_eq_true rfl) ⟨Nat.le_of_ble_eq_true rfl, Nat.le_of_ble_eq_true rfl⟩ ⟨Nat.zero_le _, Nat.zero_le _⟩ dX11_printsPlace_19 (wb' := [k_Model g a o pasts length r3.1 told state backX backY boxes frees bestFree bestTurned bestFirst bestSecond v spare past kept isKept text r3.2 left top wide high original turn boxX boxY boxW boxH freeAtX freeAtY freeW freeH begins ends tried aside]) rfl b_e0 1 rfl (by decide) (st2 := []) rfl (fun H locs hw => ?_)
  refine lv_aload_n hx hb dX11_printsPlace_22 rfl (lv_at hl 0 rfl) ?_
  refine lv_ldc2 hx hb hown (hT _ kc_X11_322) dX11_printsPlace_23 ?_
  refine lv_lconst (v := 0) hx hb dX11_printsPlace_26 (by decide) ?_
  obtain ⟨r4, er4, h⟩ := g_cl_some h
  refine b_callV hx hb hml hown hT hK hA hw mk_X11_315 (c_X11_word l D g a o pasts length r3.1 told state backX backY boxes frees bestFree bestTurned bestFirst bestSecond v spare past kept isKept text r3.2 left top wide high original turn boxX boxY boxW boxH freeAtX freeAtY freeW freeH begins ends tried aside (7022272903349534720 : Int64) (0 : Int64) r4 er4) [0] [] rfl (by decide) 0 0 rfl rfl rfl rfl hl.1 [] rfl (Nat.le_of_ble_eq_true rfl) ⟨Nat.le_of_ble_eq_true rfl, Nat.le_of_ble_eq_true rfl⟩ ⟨Nat.zero_le _, Nat.zero_le _⟩ dX11_printsPlace_27 (wb' := [k_Model g a o pasts length r4.1 told state backX backY boxes frees bestFree bestTurned bestFirst bestSecond v spare past kept isKept text r4.2 left top wide high original turn boxX boxY boxW boxH freeAtX freeAtY freeW freeH begins ends tried aside]) rfl b_e0 1 rfl (by decide) (st2 := []) rfl (fun H locs hw => ?_)
  refine lv_aload_n hx hb dX11_printsPlace_30 rfl (lv_at hl 0 rfl) ?_
  refine lv_aload_n hx hb dX11_printsPlace_31 rfl (lv_at hl 0 rfl) ?_
  refine lv_iload_n hx hb dX11_printsPlace_32 rfl (lv_at hl 2 rfl) ?_
  obtain ⟨r5, er5, h⟩ := g_cl_some h
  refine b_callV hx hb hml hown hT hK hA hw mk_X11_273 (c_X11_columnOf l D g a o pasts length r4.1 told state backX backY boxes frees bestFree bestTurned bestFirst bestSecond v spare past kept isKept text r4.2 left top wide high original turn boxX boxY boxW boxH freeAtX freeAtY freeW freeH begins ends tried aside i2 r5 er5) [0] [] rfl (by decide) 0 0 rfl rfl rfl rfl hl.1 [.ref (a o)] rfl (Nat.le_of_ble_eq_true rfl) ⟨Nat.le_of_ble_eq_true rfl, Nat.le_of_ble_eq_true rfl⟩ ⟨Nat.zero_le _, Nat.zero_le _⟩ dX11_printsPlace_33 (wb' := [k_Model g a o pasts length r4.1 told state backX backY boxes frees bestFree bestTurned bestFirst bestSecond v spare past kept isKept text r4.2 left top wide high original turn boxX boxY boxW boxH freeAtX freeAtY freeW freeH begins ends tried aside]) rfl b_e0 1 rfl (by decide) (st2 := [.int r5, .ref (a o)]) rfl (fun H locs hw => ?_)
  obtain ⟨r6, er6, h⟩ := g_cl_some h
  refine b_callV hx hb hml hown hT hK hA hw mk_X11_319 (c_X11_number l D g a o pasts length r4.1 told state backX backY boxes frees bestFree bestTurned bestFirst bestSecond v spare past kept isKept text r4.2 left top wide high original turn boxX boxY boxW boxH freeAtX freeAtY freeW freeH begins ends tried aside r5 r6 er6) [0] [] rfl (by decide) 0 0 rfl rfl rfl rfl hl.1 [] rfl (Nat.le_of_ble_eq_true rfl) ⟨Nat.le_of_ble_eq_true rfl, Nat.le_of_ble_eq_true rfl⟩ ⟨Nat.zero_le _, Nat.zero_le _⟩ dX11_printsPlace_36 (wb' := [k_Model g a o pasts length r6.1 told state backX backY boxes frees bestFree bestTurned bestFirst bestSecond v spare past kept isKept text r6.2 left top wide high original turn boxX boxY boxW boxH freeAtX freeAtY freeW freeH begins ends tried aside]) rfl b_e0 1 rfl (by decide) (st2 := []) rfl (fun H locs hw => ?_)
  refine lv_aload_n hx hb dX11_printsPlace_39 rfl (lv_at hl 0 rfl) ?_
  refine lv_bipush (v := 44) hx hb dX11_printsPlace_40 (by decide) ?_
  obtain ⟨r7, er7, h⟩ := g_cl_some h
  refine b_callV hx hb hml hown hT hK hA hw mk_X11_310 (c_X11_sign l D g a o pasts length r6.1 told state backX backY boxes frees bestFree bestTurned bestFirst bestSecond v spare past kept isKept text r6.2 left top wide high original turn boxX boxY boxW boxH freeAtX freeAtY freeW freeH begins ends tried aside (44 : Int32) r7 er7) [0] [] rfl (by decide) 0 0 rfl rfl rfl rfl hl.1 [] rfl (Nat.le_of_ble_eq_true rfl) ⟨Nat.le_of_ble_eq_true rfl, Nat.le_of_ble_eq_true rfl⟩ ⟨Nat.zero_le _, Nat.zero_le _⟩ dX11_printsPlace_42 (wb' := [k_Model g a o pasts length r7.1 told state backX backY boxes frees bestFree bestTurned bestFirst bestSecond v spare past kept isKept text r7.2 left top wide high original turn boxX boxY boxW boxH freeAtX freeAtY freeW freeH begins ends tried aside]) rfl b_e0 1 rfl (by decide) (st2 := []) rfl (fun H locs hw => ?_)
  refine lv_aload_n hx hb dX11_printsPlace_45 rfl (lv_at hl 0 rfl) ?_
  refine lv_aload_n hx hb dX11_printsPlace_46 rfl (lv_at hl 0 rfl) ?_
  refine lv_iload_n hx hb dX11_printsPlace_47 rfl (lv_at hl 2 rfl) ?_
  obtain ⟨r8, er8, h⟩ := g_cl_some h
  refine b_callV hx hb hml hown hT hK hA hw mk_X11_276 (c_X11_rowOf l D g a o pasts length r7.1 told state backX backY boxes frees bestFree bestTurned bestFirst bestSecond v spare past kept isKept text r7.2 left top wide high original turn boxX boxY boxW boxH freeAtX freeAtY freeW freeH begins ends tried aside i2 r8 er8) [0] [] rfl (by decide) 0 0 rfl rfl rfl rfl hl.1 [.ref (a o)] rfl (Nat.le_of_ble_eq_true rfl) ⟨Nat.le_of_ble_eq_true rfl, Nat.le_of_ble_eq_true rfl⟩ ⟨Nat.zero_le _, Nat.zero_le _⟩ dX11_printsPlace_48 (wb' := [k_Model g a o pasts length r7.1 told state backX backY boxes frees bestFree bestTurned bestFirst bestSecond v spare past kept isKept text r7.2 left top wide high original turn boxX boxY boxW boxH freeAtX freeAtY freeW freeH begins ends tried aside]) rfl b_e0 1 rfl (by decide) (st2 := [.int r8, .ref (a o)]) rfl (fun H locs hw => ?_)
  obtain ⟨r9, er9, h⟩ := g_cl_some h
  refine b_callV hx hb hml hown hT hK hA hw mk_X11_319 (c_X11_number l D g a o pasts length r7.1 told state backX backY boxes frees bestFree bestTurned bestFirst bestSecond v spare past kept isKept text r7.2 left top wide high original turn boxX boxY boxW boxH freeAtX freeAtY freeW freeH begins ends tried aside r8 r9 er9) [0] [] rfl (by decide) 0 0 rfl rfl rfl rfl hl.1 [] rfl (Nat.le_of_ble_eq_true rfl) ⟨Nat.le_of_ble_eq_true rfl, Nat.le_of_ble_eq_true rfl⟩ ⟨Nat.zero_le _, Nat.zero_le _⟩ dX11_printsPlace_51 (wb' := [k_Model g a o pasts length r9.1 told state backX backY boxes frees bestFree bestTurned bestFirst bestSecond v spare past kept isKept text r9.2 left top wide high original turn boxX boxY boxW boxH freeAtX freeAtY freeW freeH begins ends tried aside]) rfl b_e0 1 rfl (by decide) (st2 := []) rfl (fun H locs hw => ?_)
  refine lv_aload_n hx hb dX11_printsPlace_54 rfl (lv_at hl 0 rfl) ?_
  refine lv_ldc2 hx hb hown (hT _ kc_X11_324) dX11_printsPlace_55 ?_
  refine lv_lconst (v := 0) hx hb dX11_printsPlace_58 (by decide) ?_
  obtain ⟨r10, er10, h⟩ := g_cl_some h
  refine b_callV hx hb hml hown hT hK hA hw mk_X11_315 (c_X11_word l D g a o pasts length r9.1 told state backX backY boxes frees bestFree bestTurned bestFirst bestSecond v spare past kept isKept text r9.2 left top wide high original turn boxX boxY boxW boxH freeAtX freeAtY freeW freeH begins ends tried aside (8316312761663488000 : Int64) (0 : Int64) r10 er10) [0] [] rfl (by decide) 0 0 rfl rfl rfl rfl hl.1 [] rfl (Nat.le_of_ble_eq_true rfl) ⟨Nat.le_of_ble_eq_true rfl, Nat.le_of_ble_eq_true rfl⟩ ⟨Nat.zero_le _, Nat.zero_le _⟩ dX11_printsPlace_59 (wb' := [k_Model g a o pasts length r10.1 told state backX backY boxes frees bestFree bestTurned bestFirst bestSecond v spare past kept isKept text r10.2 left top wide high original turn boxX boxY boxW boxH freeAtX freeAtY freeW freeH begins ends tried aside]) rfl b_e0 1 rfl (by decide) (st2 := []) rfl (fun H locs hw => ?_)
  refine lv_aload_n hx hb dX11_printsPlace_62 rfl (lv_at hl 0 rfl) ?_
  refine lv_aload_n hx hb dX11_printsPlace_63 rfl (lv_at hl 0 rfl) ?_
  refine b_get hx hb hT hK hown fl_X11_38 hw 0 0 rfl rfl (v := .ref (a (o+10))) rfl dX11_printsPlace_64 ?_
  refine lv_iload_n hx hb dX11_printsPlace_67 rfl (lv_at hl 1 rfl) ?_
  obtain ⟨x11, ex11, hix11, h⟩ := g_rd_some h
  refine b_iald hx hb hK hw 0 10 rfl (f := wide) rfl hix11 ex11 dX11_printsPlace_68 ?_
  obtain ⟨r12, er12, h⟩ := g_cl_some h
  refine b_callV hx hb hml hown hT hK hA hw mk_X11_319 (c_X11_number l D g a o pasts length r10.1 told state backX backY boxes frees bestFree bestTurned bestFirst bestSecond v spare past kept isKept text r10.2 left top wide high original turn boxX boxY boxW boxH freeAtX freeAtY freeW freeH begins ends tried aside x11 r12 er12) [0] [] rfl (by decide) 0 0 rfl rfl rfl rfl hl.1 [] rfl (Nat.le_of_ble_eq_true rfl) ⟨Nat.le_of_ble_eq_true rfl, Nat.le_of_ble_eq_true rfl⟩ ⟨Nat.zero_le _, Nat.zero_le _⟩ dX11_printsPlace_69 (wb' := [k_Model g a o pasts length r12.1 told state backX backY boxes frees bestFree bestTurned bestFirst bestSecond v spare past kept isKept text r12.2 left top wide high original turn boxX boxY boxW boxH freeAtX freeAtY freeW freeH begins ends tried aside]) rfl b_e0 1 rfl (by decide) (st2 := []) rfl (fun H locs hw => ?_)
  refine lv_aload_n hx hb dX11_printsPlace_72 rfl (lv_at hl 0 rfl) ?_
  refine lv_bipush (v := 120) hx hb dX11_printsPlace_73 (by decide) ?_
  obtain ⟨r13, er13, h⟩ := g_cl_some h
  refine b_callV hx hb hml hown hT hK hA hw mk_X11_310 (c_X11_sign l D g a o pasts length r12.1 told state backX backY boxes frees bestFree bestTurned bestFirst bestSecond v spare past kept isKept text r12.2 left top wide high original turn boxX boxY boxW boxH freeAtX freeAtY freeW freeH begins ends tried aside (120 : Int32) r13 er13) [0] [] rfl (by decide) 0 0 rfl rfl rfl rfl hl.1 [] rfl (Nat.le_of_ble_eq_true rfl) ⟨Nat.le_of_ble_eq_true rfl, Nat.le_of_ble_eq_true rfl⟩ ⟨Nat.zero_le _, Nat.zero_le _⟩ dX11_printsPlace_75 (wb' := [k_Model g a o pasts length r13.1 told state backX backY boxes frees bestFree bestTurned bestFirst bestSecond v spare past kept isKept text r13.2 left top wide high original turn boxX boxY boxW boxH freeAtX freeAtY freeW freeH begins ends tried aside]) rfl b_e0 1 rfl (by decide) (st2 := []) rfl (fun H locs hw => ?_)
  refine lv_aload_n hx hb dX11_printsPlace_78 rfl (lv_at hl 0 rfl) ?_
  refine lv_aload_n hx hb dX11_printsPlace_79 rfl (lv_at hl 0 rfl) ?_
  refine b_get hx hb hT hK hown fl_X11_41 hw 0 0 rfl rfl (v := .ref (a (o+11))) rfl dX11_printsPlace_80 ?_
  refine lv_iload_n hx hb dX11_printsPlace_83 rfl (lv_at hl 1 rfl) ?_
  obtain ⟨x14, ex14, hix14, h⟩ := g_rd_some h
  refine b_iald hx hb hK hw 0 11 rfl (f := high) rfl hix14 ex14 dX11_printsPlace_84 ?_
  obtain ⟨r15, er15, h⟩ := g_cl_some h
  refine b_callV hx hb hml hown hT hK hA hw mk_X11_319 (c_X11_number l D g a o pasts length r13.1 told state backX backY boxes frees bestFree bestTurned bestFirst bestSecond v spare past kept isKept text r13.2 left top wide high original turn boxX boxY boxW boxH freeAtX freeAtY freeW freeH begins ends tried aside x14 r15 er15) [0] [] rfl (by decide) 0 0 rfl rfl rfl rfl hl.1 [] rfl (Nat.le_of_ble_eq_true rfl) ⟨Nat.le_of_ble_eq_true rfl, Nat.le_of_ble_eq_true rfl⟩ ⟨Nat.zero_le _, Nat.zero_le _⟩ dX11_printsPlace_85 (wb' := [k_Model g a o pasts length r15.1 told state backX backY boxes frees bestFree bestTurned bestFirst bestSecond v spare past kept isKept text r15.2 left top wide high original turn boxX boxY boxW boxH freeAtX freeAtY freeW freeH begins ends tried aside]) rfl b_e0 1 rfl (by decide) (st2 := []) rfl (fun H locs hw => ?_)
  refine lv_aload_n hx hb dX11_printsPlace_88 rfl (lv_at hl 0 rfl) ?_
  refine lv_ldc2 hx hb hown (hT _ kc_X11_326) dX11_printsPlace_89 ?_
  refine lv_lconst (v := 0) hx hb dX11_printsPlace_92 (by decide) ?_
  obtain ⟨r16, er16, h⟩ := g_cl_some h
  refine b_callV hx hb hml hown hT hK hA hw mk_X11_315 (c_X11_word l D g a o pasts length r15.1 told state backX backY boxes frees bestFree bestTurned bestFirst bestSecond v spare past kept isKept text r15.2 left top wide high original turn boxX boxY boxW boxH freeAtX freeAtY freeW freeH begins ends tried aside (8243104023283245056 : Int64) (0 : Int64) r16 er16) [0] [] rfl (by decide) 0 0 rfl rfl rfl rfl hl.1 [] rfl (Nat.le_of_ble_eq_true rfl) ⟨Nat.le_of_ble_eq_true rfl, Nat.le_of_ble_eq_true rfl⟩ ⟨Nat.zero_le _, Nat.zero_le _⟩ dX11_printsPlace_93 (wb' := [k_Model g a o pasts length r16.1 told state backX backY boxes frees bestFree bestTurned bestFirst bestSecond v spare past kept isKept text r16.2 left top wide high original turn boxX boxY boxW boxH freeAtX freeAtY freeW freeH begins ends tried aside]) rfl b_e0 1 rfl (by decide) (st2 := []) rfl (fun H locs hw => ?_)
  refine lv_aload_n hx hb dX11_printsPlace_96 rfl (lv_at hl 0 rfl) ?_
  refine lv_aload_n hx hb dX11_printsPlace_97 rfl (lv_at hl 0 rfl) ?_
  refine lv_iload_n hx hb dX11_printsPlace_98 rfl (lv_at hl 1 rfl) ?_
  refine lv_iload_n hx hb dX11_printsPlace_99 rfl (lv_at hl 2 rfl) ?_
  obtain ⟨r17, er17, h⟩ := g_cl_some h
  refine b_callV hx hb hml hown hT hK hA hw mk_X11_279 (c_X11_record l D g a o pasts length r16.1 told state backX backY boxes frees bestFree bestTurned bestFirst bestSecond v spare past kept isKept text r16.2 left top wide high original turn boxX boxY boxW boxH freeAtX freeAtY freeW freeH begins ends tried aside i1 i2 r17 er17) [0] [] rfl (by decide) 0 0 rfl rfl rfl rfl hl.1 [.ref (a o)] rfl (Nat.le_of_ble_eq_true rfl) ⟨Nat.le_of_ble_eq_true rfl, Nat.le_of_ble_eq_true rfl⟩ ⟨Nat.zero_le _, Nat.zero_le _⟩ dX11_printsPlace_100 (wb' := [k_Model g a o pasts length r16.1 told state r17.2.1 r17.2.2 boxes frees bestFree bestTurned bestFirst bestSecond v spare past kept isKept text r16.2 left top wide high original turn boxX boxY boxW boxH freeAtX freeAtY freeW freeH begins ends tried aside]) rfl b_e0 1 rfl (by decide) (st2 := [.int r17.1, .ref (a o)]) rfl (fun H locs hw => ?_)
  obtain ⟨r18, er18, h⟩ := g_cl_some h
  refine b_callV hx hb hml hown hT hK hA hw mk_X11_319 (c_X11_number l D g a o pasts length r16.1 told state r17.2.1 r17.2.2 boxes frees bestFree bestTurned bestFirst bestSecond v spare past kept isKept text r16.2 left top wide high original turn boxX boxY boxW boxH freeAtX freeAtY freeW freeH begins ends tried aside r17.1 r18 er18) [0] [] rfl (by decide) 0 0 rfl rfl rfl rfl hl.1 [] rfl (Nat.le_of_ble_eq_true rfl) ⟨Nat.le_of_ble_eq_true rfl, Nat.le_of_ble_eq_true rfl⟩ ⟨Nat.zero_le _, Nat.zero_le _⟩ dX11_printsPlace_103 (wb' := [k_Model g a o pasts length r18.1 told state r17.2.1 r17.2.2 boxes frees bestFree bestTurned bestFirst bestSecond v spare past kept isKept text r18.2 left top wide high original turn boxX boxY boxW boxH freeAtX freeAtY freeW freeH begins ends tried aside]) rfl b_e0 1 rfl (by decide) (st2 := []) rfl (fun H locs hw => ?_)
  obtain rfl := Option.some.inj h
  exact b_vret hQ hx hb hr hlk hw rfl dX11_printsPlace_106
set_option maxRecDepth 100000 in
set_option maxHeartbeats 4000000 in
theorem c_X11_print (l : Launch) (D : va_G) (g : Nat → ClassId) (a : Nat → Nat) (o : Nat) (pasts : Int32) (length : Int32) (printed : Int32) (told : Int32) (state : Int64) (backX : Int32) (backY : Int32) (boxes : Int32) (frees : Int32) (bestFree : Int32) (bestTurned : Int32) (bestFirst : Int32) (bestSecond : Int32) (v : (Nat → Int32)) (spare : (Nat → Int32)) (past : (Nat → Int32)) (kept : (Nat → Int32)) (isKept : (Nat → Int32)) (text : (Nat → Int32)) (paper : (Nat → Int32)) (left : (Nat → Int32)) (top : (Nat → Int32)) (wide : (Nat → Int32)) (high : (Nat → Int32)) (original : (Nat → Int32)) (turn : (Nat → Int32)) (boxX : (Nat → Int32)) (boxY : (Nat → Int32)) (boxW : (Nat → Int32)) (boxH : (Nat → Int32)) (freeAtX : (Nat → Int32)) (freeAtY : (Nat → Int32)) (freeW : (Nat → Int32)) (freeH : (Nat → Int32)) (begins : (Nat → Int32)) (ends : (Nat → Int32)) (tried : (Nat → Int32)) (aside : (Nat → Int32)) (i1 : Int32) (u : Int32 × Int32 × Int32 × Int32 × (Nat → Int32) × (Nat → Int32) × (Nat → Int32) × (Nat → Int32) × (Nat → Int32) × (Nat → Int32) × (Nat → Int32)) (h : f_X11_print printed backX backY v paper left top wide high original turn i1 = some u) : b_Ct l yX11_print cX11_print 3 (some .int) 6 147 D g [.ref (a o), .int i1] [k_Model g a o pasts length printed told state backX backY boxes frees bestFree bestTurned bestFirst bestSecond v spare past kept isKept text paper left top wide high original turn boxX boxY boxW boxH freeAtX freeAtY freeW freeH begins ends tried aside] [k_Model g a o pasts length u.2.1 told state u.2.2.1 u.2.2.2.1 boxes frees bestFree bestTurned bestFirst bestSecond v spare past kept isKept text u.2.2.2.2.1 u.2.2.2.2.2.1 u.2.2.2.2.2.2.1 u.2.2.2.2.2.2.2.1 u.2.2.2.2.2.2.2.2.1 u.2.2.2.2.2.2.2.2.2.1 u.2.2.2.2.2.2.2.2.2.2 boxX boxY boxW boxH freeAtX freeAtY freeW freeH begins ends tried aside] (some (.int u.1)) := by
  refine b_start RX11 (by decide) rfl (Nat.le_of_ble_eq_true rfl) rfl ?_
  intro p e s m args below meth c A ls Q hQ hx hb hr hlk hml hown hT hK hA hw hl
  have hl : lv_has ls 3 [(0, .ref (a o)), (1, .int i1)] := hl
  unfold f_X11_print at h
  refine lv_aload_n hx hb dX11_print_0 rfl (lv_at hl 0 rfl) ?_
  refine lv_iload_n hx hb dX11_print_1 rfl (lv_at hl 1 rfl) ?_
  obtain ⟨r1, er1, h⟩ := g_cl_some h
  refine b_callV hx hb hml hown hT hK hA hw mk_X11_138 (c_X11_isSprite l D g a o pasts length printed told state backX backY boxes frees bestFree bestTurned bestFirst bestSecond v spare past kept isKept text paper left top wide high original turn boxX boxY boxW boxH freeAtX freeAtY freeW freeH begins ends tried aside i1 r1 er1) [0] [] rfl (by decide) 0 0 rfl rfl rfl rfl hl.1 [] rfl (Nat.le_of_ble_eq_true rfl) ⟨Nat.le_of_ble_eq_true rfl, Nat.le_of_ble_eq_true rfl⟩ ⟨Nat.zero_le _, Nat.zero_le _⟩ dX11_print_2 (wb' := [k_Model g a o pasts length printed told state backX backY boxes frees bestFree bestTurned bestFirst bestSecond v spare past kept isKept text paper left top wide high original turn boxX boxY boxW boxH freeAtX freeAtY freeW freeH begins ends tried aside]) rfl b_e0 1 rfl (by decide) (st2 := [.int r1]) rfl (fun H locs hw => ?_)
  refine lv_if_ne (tgt := 10) hx hb dX11_print_5 (by decide) (fun hc5 => ?_) (fun hc5 => ?_)
  · rw [if_neg hc5] at h
    refine lv_aload_n hx hb dX11_print_10 rfl (lv_at hl 0 rfl) ?_
    refine lv_iload_n hx hb dX11_print_11 rfl (lv_at hl 1 rfl) ?_
    obtain ⟨r2, er2, h⟩ := g_cl_some h
    refine b_callV hx hb hml hown hT hK hA hw mk_X11_270 (c_X11_holder l D g a o pasts length printed told state backX backY boxes frees bestFree bestTurned bestFirst bestSecond v spare past kept isKept text paper left top wide high original turn boxX boxY boxW boxH freeAtX freeAtY freeW freeH begins ends tried aside i1 r2 er2) [0] [] rfl (by decide) 0 0 rfl rfl rfl rfl hl.1 [] rfl (Nat.le_of_ble_eq_true rfl) ⟨Nat.le_of_ble_eq_true rfl, Nat.le_of_ble_eq_true rfl⟩ ⟨Nat.zero_le _, Nat.zero_le _⟩ dX11_print_12 (wb' := [k_Model g a o pasts length printed told state r2.2.1 r2.2.2.1 boxes frees bestFree bestTurned bestFirst bestSecond v spare past kept isKept text paper r2.2.2.2.1 r2.2.2.2.2.1 r2.2.2.2.2.2.1 r2.2.2.2.2.2.2.1 r2.2.2.2.2.2.2.2.1 r2.2.2.2.2.2.2.2.2 boxX boxY boxW boxH freeAtX freeAtY freeW freeH begins ends tried aside]) rfl b_e0 1 rfl (by decide) (st2 := [.int r2.1]) rfl (fun H locs hw => ?_)
    refine lv_istore_n (lv' := [(2, .int r2.1), (0, .ref (a o)), (1, .int i1)]) hx hb dX11_print_15 rfl hl (by decide) rfl (fun ls hl => ?_)
    refine lv_aload_n hx hb dX11_print_16 rfl (lv_at hl 1 rfl) ?_
    refine lv_iconst (v := 0) hx hb dX11_print_17 (by decide) ?_
    refine b_putf hx hb hT hK hown fl_X11_307 ft_X11 hw 0 0 rfl rfl rfl rfl rfl (Nat.le_of_ble_eq_true rfl) rfl (wb' := [k_Model g a o pasts length (0 : Int32) told state r2.2.1 r2.2.2.1 boxes frees bestFree bestTurned bestFirst bestSecond v spare past kept isKept text paper r2.2.2.2.1 r2.2.2.2.2.1 r2.2.2.2.2.2.1 r2.2.2.2.2.2.2.1 r2.2.2.2.2.2.2.2.1 r2.2.2.2.2.2.2.2.2 boxX boxY boxW boxH freeAtX freeAtY freeW freeH begins ends tried aside]) rfl dX11_print_18 (fun H locs hw => ?_)
    refine lv_aload_n hx hb dX11_print_21 rfl (lv_at hl 1 rfl) ?_
    refine lv_iload_n hx hb dX11_print_22 rfl (lv_at hl 2 rfl) ?_
    obtain ⟨r3, er3, h⟩ := g_cl_some h
    refine b_callV hx hb hml hown hT hK hA hw mk_X11_319 (c_X11_number l D g a o pasts length (0 : Int32) told state r2.2.1 r2.2.2.1 boxes frees bestFree bestTurned bestFirst bestSecond v spare past kept isKept text paper r2.2.2.2.1 r2.2.2.2.2.1 r2.2.2.2.2.2.1 r2.2.2.2.2.2.2.1 r2.2.2.2.2.2.2.2.1 r2.2.2.2.2.2.2.2.2 boxX boxY boxW boxH freeAtX freeAtY freeW freeH begins ends tried aside i1 r3 er3) [0] [] rfl (by decide) 0 0 rfl rfl rfl rfl hl.1 [] rfl (Nat.le_of_ble_eq_true rfl) ⟨Nat.le_of_ble_eq_true rfl, Nat.le_of_ble_eq_true rfl⟩ ⟨Nat.zero_le _, Nat.zero_le _⟩ dX11_print_23 (wb' := [k_Model g a o pasts length r3.1 told state r2.2.1 r2.2.2.1 boxes frees bestFree bestTurned bestFirst bestSecond v spare past kept isKept text r3.2 r2.2.2.2.1 r2.2.2.2.2.1 r2.2.2.2.2.2.1 r2.2.2.2.2.2.2.1 r2.2.2.2.2.2.2.2.1 r2.2.2.2.2.2.2.2.2 boxX boxY boxW boxH freeAtX freeAtY freeW freeH begins ends tried aside]) rfl b_e0 1 rfl (by decide) (st2 := []) rfl (fun H locs hw => ?_)
    refine lv_aload_n hx hb dX11_print_26 rfl (lv_at hl 1 rfl) ?_
    refine lv_bipush (v := 58) hx hb dX11_print_27 (by decide) ?_
    obtain ⟨r4, er4, h⟩ := g_cl_some h
    refine b_callV hx hb hml hown hT hK hA hw mk_X11_310 (c_X11_sign l D g a o pasts length r3.1 told state r2.2.1 r2.2.2.1 boxes frees bestFree bestTurned bestFirst bestSecond v spare past kept isKept text r3.2 r2.2.2.2.1 r2.2.2.2.2.1 r2.2.2.2.2.2.1 r2.2.2.2.2.2.2.1 r2.2.2.2.2.2.2.2.1 r2.2.2.2.2.2.2.2.2 boxX boxY boxW boxH freeAtX freeAtY freeW freeH begins ends tried aside (58 : Int32) r4 er4) [0] [] rfl (by decide) 0 0 rfl rfl rfl rfl hl.1 [] rfl (Nat.le_of_ble_eq_true rfl) ⟨Nat.le_of_ble_eq_true rfl, Nat.le_of_ble_eq_true rfl⟩ ⟨Nat.zero_le _, Nat.zero_le _⟩ dX11_print_29 (wb' := [k_Model g a o pasts length r4.1 told state r2.2.1 r2.2.2.1 boxes frees bestFree bestTurned bestFirst bestSecond v spare past kept isKept text r4.2 r2.2.2.2.1 r2.2.2.2.2.1 r2.2.2.2.2.2.1 r2.2.2.2.2.2.2.1 r2.2.2.2.2.2.2.2.1 r2.2.2.2.2.2.2.2.2 boxX boxY boxW boxH freeAtX freeAtY freeW freeH begins ends tried aside]) rfl b_e0 1 rfl (by decide) (st2 := []) rfl (fun H locs hw => ?_)
    refine lv_aload_n hx hb dX11_print_32 rfl (lv_at hl 1 rfl) ?_
    refine b_get hx hb hT hK hown fl_X11_38 hw 0 0 rfl rfl (v := .ref (a (o+10))) rfl dX11_print_33 ?_
    refine lv_iload_n hx hb dX11_print_36 rfl (lv_at hl 2 rfl) ?_
    obtain ⟨x5, ex5, hix5, h⟩ := g_rd_some h
    refine b_iald hx hb hK hw 0 10 rfl (f := r2.2.2.2.2.2.1) rfl hix5 ex5 dX11_print_37 ?_
    obtain ⟨j73_9, ej73_9, h⟩ := g_jn_nm h
    have hj73_9 : ∀ (x6 : Int32) (x7 : Int32) (x8 : Int32) (f9 : Nat → Int32) (H : Heap) (locs : List Loc) (ls : Array Slot), b_Wd D A s.heap H locs [k_Model g a o pasts length x6 told state x7 x8 boxes frees bestFree bestTurned bestFirst bestSecond v spare past kept isKept text f9 r2.2.2.2.1 r2.2.2.2.2.1 r2.2.2.2.2.2.1 r2.2.2.2.2.2.2.1 r2.2.2.2.2.2.2.2.1 r2.2.2.2.2.2.2.2.2 boxX boxY boxW boxH freeAtX freeAtY freeW freeH begins ends tried aside] → lv_has ls 3 [(0, .ref (a o)), (1, .int i1)] → j73_9 x6 x7 x8 f9 = some u → W p l e (g_rm 6 147) s m args below meth c H locs 0 0 Q (F0 m 73 ls []) := by
      intro x6 x7 x8 f9 H locs ls hw hl h
      subst ej73_9
      dsimp only at h
      refine lv_aload_n hx hb dX11_print_73 rfl (lv_at hl 0 rfl) ?_
      refine b_get hx hb hT hK hown fl_X11_44 hw 0 0 rfl rfl (v := .ref (a (o+12))) rfl dX11_print_74 ?_
      refine lv_iload_n hx hb dX11_print_77 rfl (lv_at hl 1 rfl) ?_
      obtain ⟨x11, ex11, hix11, h⟩ := g_rd_some h
      refine b_iald hx hb hK hw 0 12 rfl (f := r2.2.2.2.2.2.2.2.1) rfl hix11 ex11 dX11_print_78 ?_
      obtain ⟨j100_13, ej100_13, h⟩ := g_jn_nm h
      have hj100_13 : ∀ (x12 : Int32) (f13 : Nat → Int32) (H : Heap) (locs : List Loc) (ls : Array Slot), b_Wd D A s.heap H locs [k_Model g a o pasts length x12 told state x7 x8 boxes frees bestFree bestTurned bestFirst bestSecond v spare past kept isKept text f13 r2.2.2.2.1 r2.2.2.2.2.1 r2.2.2.2.2.2.1 r2.2.2.2.2.2.2.1 r2.2.2.2.2.2.2.2.1 r2.2.2.2.2.2.2.2.2 boxX boxY boxW boxH freeAtX freeAtY freeW freeH begins ends tried aside] → lv_has ls 3 [(0, .ref (a o))] → j100_13 x12 f13 = some u → W p l e (g_rm 6 147) s m args below meth c H locs 0 0 Q (F0 m 100 ls []) := by
        intro x12 f13 H locs ls hw hl h
        subst ej100_13
        dsimp only at h
        refine lv_aload_n hx hb dX11_print_100 rfl (lv_at hl 0 rfl) ?_
        refine b_get hx hb hT hK hown fl_X11_307 hw 0 0 rfl rfl (v := .int x12) rfl dX11_print_101 ?_
        obtain rfl := Option.some.inj h
        exact b_iret hQ hx hb hr hlk hw rfl dX11_print_104
      refine lv_if_lt (tgt := 100) hx hb dX11_print_79 (by decide) (fun hc79 => ?_) (fun hc79 => ?_)
      · rw [if_pos hc79] at h
        exact hj100_13 x6 f9 _ _ _ hw (lv_sub hl [0] rfl) h
      · rw [if_neg hc79] at h
        refine lv_aload_n hx hb dX11_print_82 rfl (lv_at hl 0 rfl) ?_
        refine lv_ldc2 hx hb hown (hT _ kc_X11_335) dX11_print_83 ?_
        refine lv_lconst (v := 0) hx hb dX11_print_86 (by decide) ?_
        obtain ⟨r15, er15, h⟩ := g_cl_some h
        refine b_callV hx hb hml hown hT hK hA hw mk_X11_315 (c_X11_word l D g a o pasts length x6 told state x7 x8 boxes frees bestFree bestTurned bestFirst bestSecond v spare past kept isKept text f9 r2.2.2.2.1 r2.2.2.2.2.1 r2.2.2.2.2.2.1 r2.2.2.2.2.2.2.1 r2.2.2.2.2.2.2.2.1 r2.2.2.2.2.2.2.2.2 boxX boxY boxW boxH freeAtX freeAtY freeW freeH begins ends tried aside (7165069197707273760 : Int64) (0 : Int64) r15 er15) [0] [] rfl (by decide) 0 0 rfl rfl rfl rfl hl.1 [] rfl (Nat.le_of_ble_eq_true rfl) ⟨Nat.le_of_ble_eq_true rfl, Nat.le_of_ble_eq_true rfl⟩ ⟨Nat.zero_le _, Nat.zero_le _⟩ dX11_print_87 (wb' := [k_Model g a o pasts length r15.1 told state x7 x8 boxes frees bestFree bestTurned bestFirst bestSecond v spare past kept isKept text r15.2 r2.2.2.2.1 r2.2.2.2.2.1 r2.2.2.2.2.2.1 r2.2.2.2.2.2.2.1 r2.2.2.2.2.2.2.2.1 r2.2.2.2.2.2.2.2.2 boxX boxY boxW boxH freeAtX freeAtY freeW freeH begins ends tried aside]) rfl b_e0 1 rfl (by decide) (st2 := []) rfl (fun H locs hw => ?_)
        refine lv_aload_n hx hb dX11_print_90 rfl (lv_at hl 0 rfl) ?_
        refine lv_aload_n hx hb dX11_print_91 rfl (lv_at hl 0 rfl) ?_
        refine b_get hx hb hT hK hown fl_X11_44 hw 0 0 rfl rfl (v := .ref (a (o+12))) rfl dX11_print_92 ?_
        refine lv_iload_n hx hb dX11_print_95 rfl (lv_at hl 1 rfl) ?_
        obtain ⟨x16, ex16, hix16, h⟩ := g_rd_some h
        refine b_iald hx hb hK hw 0 12 rfl (f := r2.2.2.2.2.2.2.2.1) rfl hix16 ex16 dX11_print_96 ?_
        obtain ⟨r17, er17, h⟩ := g_cl_some h
        refine b_callV hx hb hml hown hT hK hA hw mk_X11_319 (c_X11_number l D g a o pasts length r15.1 told state x7 x8 boxes frees bestFree bestTurned bestFirst bestSecond v spare past kept isKept text r15.2 r2.2.2.2.1 r2.2.2.2.2.1 r2.2.2.2.2.2.1 r2.2.2.2.2.2.2.1 r2.2.2.2.2.2.2.2.1 r2.2.2.2.2.2.2.2.2 boxX boxY boxW boxH freeAtX freeAtY freeW freeH begins ends tried aside x16 r17 er17) [0] [] rfl (by decide) 0 0 rfl rfl rfl rfl hl.1 [] rfl (Nat.le_of_ble_eq_true rfl) ⟨Nat.le_of_ble_eq_true rfl, Nat.le_of_ble_eq_true rfl⟩ ⟨Nat.zero_le _, Nat.zero_le _⟩ dX11_print_97 (wb' := [k_Model g a o pasts length r17.1 told state x7 x8 boxes frees bestFree bestTurned bestFirst bestSecond v spare past kept isKept text r17.2 r2.2.2.2.1 r2.2.2.2.2.1 r2.2.2.2.2.2.1 r2.2.2.2.2.2.2.1 r2.2.2.2.2.2.2.2.1 r2.2.2.2.2.2.2.2.2 boxX boxY boxW boxH freeAtX freeAtY freeW freeH begins ends tried aside]) rfl b_e0 1 rfl (by decide) (st2 := []) rfl (fun H locs hw => ?_)
        exact hj100_13 r17.1 r17.2 _ _ _ hw (lv_sub hl [0] rfl) h
    refine lv_if_ne (tgt := 52) hx hb dX11_print_38 (by decide) (fun hc38 => ?_) (fun hc38 => ?_)
    · rw [if_neg hc38] at h
      refine lv_iload_n hx hb dX11_print_52 rfl (lv_at hl 0 rfl) ?_
      refine lv_if_ge (tgt := 67) hx hb dX11_print_53 (by decide) (fun hc53 => ?_) (fun hc53 => ?_)
      · rw [if_pos hc53] at h
        refine lv_aload_n hx hb dX11_print_67 rfl (lv_at hl 1 rfl) ?_
        refine lv_iload_n hx hb dX11_print_68 rfl (lv_at hl 2 rfl) ?_
        refine lv_iload_n hx hb dX11_print_69 rfl (lv_at hl 0 rfl) ?_
        obtain ⟨r19, er19, h⟩ := g_cl_some h
        refine b_callV hx hb hml hown hT hK hA hw mk_X11_332 (c_X11_printsPlace l D g a o pasts length r4.1 told state r2.2.1 r2.2.2.1 boxes frees bestFree bestTurned bestFirst bestSecond v spare past kept isKept text r4.2 r2.2.2.2.1 r2.2.2.2.2.1 r2.2.2.2.2.2.1 r2.2.2.2.2.2.2.1 r2.2.2.2.2.2.2.2.1 r2.2.2.2.2.2.2.2.2 boxX boxY boxW boxH freeAtX freeAtY freeW freeH begins ends tried aside i1 r2.1 r19 er19) [0] [] rfl (by decide) 0 0 rfl rfl rfl rfl hl.1 [] rfl (Nat.le_of_ble_eq_true rfl) ⟨Nat.le_of_ble_eq_true rfl, Nat.le_of_ble_eq_true rfl⟩ ⟨Nat.zero_le _, Nat.zero_le _⟩ dX11_print_70 (wb' := [k_Model g a o pasts length r19.1 told state r19.2.1 r19.2.2.1 boxes frees bestFree bestTurned bestFirst bestSecond v spare past kept isKept text r19.2.2.2 r2.2.2.2.1 r2.2.2.2.2.1 r2.2.2.2.2.2.1 r2.2.2.2.2.2.2.1 r2.2.2.2.2.2.2.2.1 r2.2.2.2.2.2.2.2.2 boxX boxY boxW boxH freeAtX freeAtY freeW freeH begins ends tried aside]) rfl b_e0 1 rfl (by decide) (st2 := []) rfl (fun H locs hw => ?_)
        exact hj73_9 r19.1 r19.2.1 r19.2.2.1 r19.2.2.2 _ _ _ hw (lv_sub hl [1, 2] rfl) h
      · rw [if_neg hc53] at h
        refine lv_aload_n hx hb dX11_print_56 rfl (lv_at hl 1 rfl) ?_
        refine lv_ldc2 hx hb hown (hT _ kc_X11_330) dX11_print_57 ?_
        refine lv_lconst (v := 0) hx hb dX11_print_60 (by decide) ?_
        obtain ⟨r20, er20, h⟩ := g_cl_some h
        refine b_callV hx hb hml hown hT hK hA hw mk_X11_315 (c_X11_word l D g a o pasts length r4.1 told state r2.2.1 r2.2.2.1 boxes frees bestFree bestTurned bestFirst bestSecond v spare past kept isKept text r4.2 r2.2.2.2.1 r2.2.2.2.2.1 r2.2.2.2.2.2.1 r2.2.2.2.2.2.2.1 r2.2.2.2.2.2.2.2.1 r2.2.2.2.2.2.2.2.2 boxX boxY boxW boxH freeAtX freeAtY freeW freeH begins ends tried aside (8461824360668423524 : Int64) (0 : Int64) r20 er20) [0] [] rfl (by decide) 0 0 rfl rfl rfl rfl hl.1 [] rfl (Nat.le_of_ble_eq_true rfl) ⟨Nat.le_of_ble_eq_true rfl, Nat.le_of_ble_eq_true rfl⟩ ⟨Nat.zero_le _, Nat.zero_le _⟩ dX11_print_61 (wb' := [k_Model g a o pasts length r20.1 told state r2.2.1 r2.2.2.1 boxes frees bestFree bestTurned bestFirst bestSecond v spare past kept isKept text r20.2 r2.2.2.2.1 r2.2.2.2.2.1 r2.2.2.2.2.2.1 r2.2.2.2.2.2.2.1 r2.2.2.2.2.2.2.2.1 r2.2.2.2.2.2.2.2.2 boxX boxY boxW boxH freeAtX freeAtY freeW freeH begins ends tried aside]) rfl b_e0 1 rfl (by decide) (st2 := []) rfl (fun H locs hw => ?_)
        refine lv_goto (tgt := 73) hx hb dX11_print_64 (by decide) ?_
        exact hj73_9 r20.1 r2.2.1 r2.2.2.1 r20.2 _ _ _ hw (lv_sub hl [1, 2] rfl) h
    · rw [if_pos hc38] at h
      refine lv_aload_n hx hb dX11_print_41 rfl (lv_at hl 1 rfl) ?_
      refine lv_ldc2 hx hb hown (hT _ kc_X11_328) dX11_print_42 ?_
      refine lv_lconst (v := 0) hx hb dX11_print_45 (by decide) ?_
      obtain ⟨r18, er18, h⟩ := g_cl_some h
      refine b_callV hx hb hml hown hT hK hA hw mk_X11_315 (c_X11_word l D g a o pasts length r4.1 told state r2.2.1 r2.2.2.1 boxes frees bestFree bestTurned bestFirst bestSecond v spare past kept isKept text r4.2 r2.2.2.2.1 r2.2.2.2.2.1 r2.2.2.2.2.2.1 r2.2.2.2.2.2.2.1 r2.2.2.2.2.2.2.2.1 r2.2.2.2.2.2.2.2.2 boxX boxY boxW boxH freeAtX freeAtY freeW freeH begins ends tried aside (7092150640071147520 : Int64) (0 : Int64) r18 er18) [0] [] rfl (by decide) 0 0 rfl rfl rfl rfl hl.1 [] rfl (Nat.le_of_ble_eq_true rfl) ⟨Nat.le_of_ble_eq_true rfl, Nat.le_of_ble_eq_true rfl⟩ ⟨Nat.zero_le _, Nat.zero_le _⟩ dX11_print_46 (wb' := [k_Model g a o pasts length r18.1 told state r2.2.1 r2.2.2.1 boxes frees bestFree bestTurned bestFirst bestSecond v spare past kept isKept text r18.2 r2.2.2.2.1 r2.2.2.2.2.1 r2.2.2.2.2.2.1 r2.2.2.2.2.2.2.1 r2.2.2.2.2.2.2.2.1 r2.2.2.2.2.2.2.2.2 boxX boxY boxW boxH freeAtX freeAtY freeW freeH begins ends tried aside]) rfl b_e0 1 rfl (by decide) (st2 := []) rfl (fun H locs hw => ?_)
      refine lv_goto (tgt := 73) hx hb dX11_print_49 (by decide) ?_
      exact hj73_9 r18.1 r2.2.1 r2.2.2.1 r18.2 _ _ _ hw (lv_sub hl [1, 2] rfl) h
  · rw [if_pos hc5] at h
    refine lv_iconst (v := -1) hx hb dX11_print_8 (by decide) ?_
    obtain rfl := Option.some.inj h
    exact b_iret hQ hx hb hr hlk hw rfl dX11_print_9
set_option maxRecDepth 100000 in
set_option maxHeartbeats 4000000 in
theorem c_X11_printed (l : Launch) (D : va_G) (g : Nat → ClassId) (a : Nat → Nat) (o : Nat) (pasts : Int32) (length : Int32) (printed : Int32) (told : Int32) (state : Int64) (backX : Int32) (backY : Int32) (boxes : Int32) (frees : Int32) (bestFree : Int32) (bestTurned : Int32) (bestFirst : Int32) (bestSecond : Int32) (v : (Nat → Int32)) (spare : (Nat → Int32)) (past : (Nat → Int32)) (kept : (Nat → Int32)) (isKept : (Nat → Int32)) (text : (Nat → Int32)) (paper : (Nat → Int32)) (left : (Nat → Int32)) (top : (Nat → Int32)) (wide : (Nat → Int32)) (high : (Nat → Int32)) (original : (Nat → Int32)) (turn : (Nat → Int32)) (boxX : (Nat → Int32)) (boxY : (Nat → Int32)) (boxW : (Nat → Int32)) (boxH : (Nat → Int32)) (freeAtX : (Nat → Int32)) (freeAtY : (Nat → Int32)) (freeW : (Nat → Int32)) (freeH : (Nat → Int32)) (begins : (Nat → Int32)) (ends : (Nat → Int32)) (tried : (Nat → Int32)) (aside : (Nat → Int32)) (i1 : Int32) (u : Int32) (h : f_X11_printed printed paper i1 = some u) : b_Ct l yX11_printed cX11_printed 2 (some .int) 0 0 D g [.ref (a o), .int i1] [k_Model g a o pasts length printed told state backX backY boxes frees bestFree bestTurned bestFirst bestSecond v spare past kept isKept text paper left top wide high original turn boxX boxY boxW boxH freeAtX freeAtY freeW freeH begins ends tried aside] [k_Model g a o pasts length printed told state backX backY boxes frees bestFree bestTurned bestFirst bestSecond v spare past kept isKept text paper left top wide high original turn boxX boxY boxW boxH freeAtX freeAtY freeW freeH begins ends tried aside] (some (.int u)) := by
  refine b_start RX11 (by decide) rfl (Nat.le_of_ble_eq_true rfl) rfl ?_
  intro p e s m args below meth c A ls Q hQ hx hb hr hlk hml hown hT hK hA hw hl
  have hl : lv_has ls 2 [(0, .ref (a o)), (1, .int i1)] := hl
  unfold f_X11_printed at h
  refine lv_iload_n hx hb dX11_printed_0 rfl (lv_at hl 1 rfl) ?_
  refine lv_if_ge (tgt := 8) hx hb dX11_printed_1 (by decide) (fun hc1 => ?_) (fun hc1 => ?_)
  · rw [if_pos hc1] at h
    refine lv_iload_n hx hb dX11_printed_8 rfl (lv_at hl 1 rfl) ?_
    refine lv_aload_n hx hb dX11_printed_9 rfl (lv_at hl 0 rfl) ?_
    refine b_get hx hb hT hK hown fl_X11_307 hw 0 0 rfl rfl (v := .int printed) rfl dX11_printed_10 ?_
    refine lv_icmp_ge (tgt := 25) hx hb dX11_printed_13 (by decide) (fun hc13 => ?_) (fun hc13 => ?_)
    · rw [if_pos hc13] at h
      refine lv_bipush (v := -4) hx hb dX11_printed_25 (by decide) ?_
      obtain rfl := Option.some.inj h
      exact b_iret hQ hx hb hr hlk hw rfl dX11_printed_27
    · rw [if_neg hc13] at h
      refine lv_aload_n hx hb dX11_printed_16 rfl (lv_at hl 0 rfl) ?_
      refine b_get hx hb hT hK hown fl_X11_29 hw 0 0 rfl rfl (v := .ref (a (o+7))) rfl dX11_printed_17 ?_
      refine lv_iload_n hx hb dX11_printed_20 rfl (lv_at hl 1 rfl) ?_
      obtain ⟨x1, ex1, hix1, h⟩ := g_rd_some h
      refine b_iald hx hb hK hw 0 7 rfl (f := paper) rfl hix1 ex1 dX11_printed_21 ?_
      refine lv_goto (tgt := 27) hx hb dX11_printed_22 (by decide) ?_
      obtain rfl := Option.some.inj h
      exact b_iret hQ hx hb hr hlk hw rfl dX11_printed_27
  · rw [if_neg hc1] at h
    refine lv_iconst (v := -1) hx hb dX11_printed_4 (by decide) ?_
    refine lv_goto (tgt := 27) hx hb dX11_printed_5 (by decide) ?_
    obtain rfl := Option.some.inj h
    exact b_iret hQ hx hb hr hlk hw rfl dX11_printed_27
set_option maxRecDepth 100000 in
set_option maxHeartbeats 4000000 in
theorem c_X11_keep (l : Launch) (D : va_G) (g : Nat → ClassId) (a : Nat → Nat) (o : Nat) (pasts : Int32) (length : Int32) (printed : Int32) (told : Int32) (state : Int64) (backX : Int32) (backY : Int32) (boxes : Int32) (frees : Int32) (bestFree : Int32) (bestTurned : Int32) (bestFirst : Int32) (bestSecond : Int32) (v : (Nat → Int32)) (spare : (Nat → Int32)) (past : (Nat → Int32)) (kept : (Nat → Int32)) (isKept : (Nat → Int32)) (text : (Nat → Int32)) (paper : (Nat → Int32)) (left : (Nat → Int32)) (top : (Nat → Int32)) (wide : (Nat → Int32)) (high : (Nat → Int32)) (original : (Nat → Int32)) (turn : (Nat → Int32)) (boxX : (Nat → Int32)) (boxY : (Nat → Int32)) (boxW : (Nat → Int32)) (boxH : (Nat → Int32)) (freeAtX : (Nat → Int32)) (freeAtY : (Nat → Int32)) (freeW : (Nat → Int32)) (freeH : (Nat → Int32)) (begins : (Nat → Int32)) (ends : (Nat → Int32)) (tried : (Nat → Int32)) (aside : (Nat → Int32)) (i1 : Int32) (u : Int32 × (Nat → Int32) × (Nat → Int32)) (h : f_X11_keep v kept isKept i1 = some u) : b_Ct l yX11_keep cX11_keep 3 (some .int) 1 22 D g [.ref (a o), .int i1] [k_Model g a o pasts length printed told state backX backY boxes frees bestFree bestTurned bestFirst bestSecond v spare past kept isKept text paper left top wide high original turn boxX boxY boxW boxH freeAtX freeAtY freeW freeH begins ends tried aside] [k_Model g a o pasts length printed told state backX backY boxes frees bestFree bestTurned bestFirst bestSecond v spare past u.2.1 u.2.2 text paper left top wide high original turn boxX boxY boxW boxH freeAtX freeAtY freeW freeH begins ends tried aside] (some (.int u.1)) := by
  refine b_start RX11 (by decide) rfl (Nat.le_of_ble_eq_true rfl) rfl ?_
  intro p e s m args below meth c A ls Q hQ hx hb hr hlk hml hown hT hK hA hw hl
  have hl : lv_has ls 3 [(0, .ref (a o)), (1, .int i1)] := hl
  unfold f_X11_keep at h
  refine lv_iload_n hx hb dX11_keep_0 rfl (lv_at hl 1 rfl) ?_
  refine lv_iconst (v := 0) hx hb dX11_keep_1 (by decide) ?_
  refine lv_iconst (v := 1) hx hb dX11_keep_2 (by decide) ?_
  refine b_callS hx hb hml hown hT hK hA hw mk_X11_86 (c_X11_in l D g i1 (0 : Int32) (1 : Int32)) [] [0] rfl (by decide) rfl hl.1 [] rfl (Nat.le_of_ble_eq_true rfl) ⟨Nat.le_of_ble_eq_true rfl, Nat.le_of_ble_eq_true rfl⟩ ⟨Nat.zero_le _, Nat.zero_le _⟩ dX11_keep_3 (wb' := [k_Model g a o pasts length printed told state backX backY boxes frees bestFree bestTurned bestFirst bestSecond v spare past kept isKept text paper left top wide high original turn boxX boxY boxW boxH freeAtX freeAtY freeW freeH begins ends tried aside]) rfl (b_e1 rfl b_e0) 1 rfl (by decide) (st2 := [.int (f_X11_in i1 (0 : Int32) (1 : Int32))]) rfl (fun H locs hw => ?_)
  refine lv_if_ne (tgt := 11) hx hb dX11_keep_6 (by decide) (fun hc6 => ?_) (fun hc6 => ?_)
  · rw [if_neg hc6] at h
    refine lv_iconst (v := 0) hx hb dX11_keep_11 (by decide) ?_
    refine lv_istore_n (lv' := [(2, .int (0 : Int32)), (0, .ref (a o)), (1, .int i1)]) hx hb dX11_keep_12 rfl hl (by decide) rfl (fun ls hl => ?_)
    obtain ⟨k44_1, ek44_1, h⟩ := g_jn_nm h
    have hk44_1 : ∀ (f1 : Nat → Int32) (H : Heap) (locs : List Loc) (ls : Array Slot), b_Wd D A s.heap H locs [k_Model g a o pasts length printed told state backX backY boxes frees bestFree bestTurned bestFirst bestSecond v spare past f1 isKept text paper left top wide high original turn boxX boxY boxW boxH freeAtX freeAtY freeW freeH begins ends tried aside] → lv_has ls 3 [(0, .ref (a o)), (1, .int i1)] → k44_1 f1 = some u → W p l e (g_rm 1 22) s m args below meth c H locs 0 0 Q (F0 m 44 ls []) := by
      intro f1 H locs ls hw hl h
      subst ek44_1
      dsimp only at h
      refine lv_aload_n hx hb dX11_keep_44 rfl (lv_at hl 0 rfl) ?_
      refine b_get hx hb hT hK hown fl_X11_22 hw 0 0 rfl rfl (v := .ref (a (o+5))) rfl dX11_keep_45 ?_
      refine lv_iload_n hx hb dX11_keep_48 rfl (lv_at hl 1 rfl) ?_
      refine lv_iconst (v := 1) hx hb dX11_keep_49 (by decide) ?_
      obtain ⟨f3, ef3, hif3, h⟩ := g_wrZ_some h
      refine b_zast hx hb hK hw 0 5 rfl (f := isKept) rfl hif3 ef3 rfl (wb' := [k_Model g a o pasts length printed told state backX backY boxes frees bestFree bestTurned bestFirst bestSecond v spare past f1 f3 text paper left top wide high original turn boxX boxY boxW boxH freeAtX freeAtY freeW freeH begins ends tried aside]) rfl dX11_keep_50 (fun H locs hw => ?_)
      refine lv_aload_n hx hb dX11_keep_51 rfl (lv_at hl 0 rfl) ?_
      refine b_get hx hb hT hK hown fl_X11_7 hw 0 0 rfl rfl (v := .ref (a (o+1))) rfl dX11_keep_52 ?_
      refine lv_iconst (v := 0) hx hb dX11_keep_55 (by decide) ?_
      obtain ⟨x4, ex4, hix4, h⟩ := g_rd_some h
      refine b_iald hx hb hK hw 0 1 rfl (f := v) rfl hix4 ex4 dX11_keep_56 ?_
      obtain rfl := Option.some.inj h
      exact b_iret hQ hx hb hr hlk hw rfl dX11_keep_57
    have hL13 : ∀ (n : Nat) (x5 : Int32) (f6 : Nat → Int32) (H : Heap) (locs : List Loc) (ls : Array Slot), b_Wd D A s.heap H locs [k_Model g a o pasts length printed told state backX backY boxes frees bestFree bestTurned bestFirst bestSecond v spare past f6 isKept text paper left top wide high original turn boxX boxY boxW boxH freeAtX freeAtY freeW freeH begins ends tried aside] → lv_has ls 3 [(0, .ref (a o)), (1, .int i1), (2, .int x5)] → f_X11_keep_L13 v i1 k44_1 n x5 f6 = some u → W p l e (g_rm 1 22) s m args below meth c H locs 0 0 Q (F0 m 13 ls []) := by
      intro n
      induction n with
      | zero =>
        intro x5 f6 H locs ls hw hl h
        cases (show none = some u from h)
      | succ n ih13 =>
        intro x5 f6 H locs ls hw hl h
        rw [f_X11_keep_L13] at h
        refine lv_iload_n hx hb dX11_keep_13 rfl (lv_at hl 2 rfl) ?_
        refine lv_sipush (v := 1748) hx hb dX11_keep_14 (by decide) ?_
        refine lv_icmp_ge (tgt := 44) hx hb dX11_keep_17 (by decide) (fun hc17 => ?_) (fun hc17 => ?_)
        · rw [if_pos hc17] at h
          exact hk44_1 f6 _ _ _ hw (lv_sub hl [0, 1] rfl) h
        · rw [if_neg hc17] at h
          refine lv_aload_n hx hb dX11_keep_20 rfl (lv_at hl 0 rfl) ?_
          refine b_get hx hb hT hK hown fl_X11_19 hw 0 0 rfl rfl (v := .ref (a (o+4))) rfl dX11_keep_21 ?_
          refine lv_sipush (v := 1748) hx hb dX11_keep_24 (by decide) ?_
          refine lv_iload_n hx hb dX11_keep_27 rfl (lv_at hl 1 rfl) ?_
          refine lv_imul hx hb dX11_keep_28 ?_
          refine lv_iload_n hx hb dX11_keep_29 rfl (lv_at hl 2 rfl) ?_
          refine lv_iadd hx hb dX11_keep_30 ?_
          refine lv_aload_n hx hb dX11_keep_31 rfl (lv_at hl 0 rfl) ?_
          refine b_get hx hb hT hK hown fl_X11_7 hw 0 0 rfl rfl (v := .ref (a (o+1))) rfl dX11_keep_32 ?_
          refine lv_iload_n hx hb dX11_keep_35 rfl (lv_at hl 2 rfl) ?_
          obtain ⟨x7, ex7, hix7, h⟩ := g_rd_some h
          refine b_iald hx hb hK hw 0 1 rfl (f := v) rfl hix7 ex7 dX11_keep_36 ?_
          obtain ⟨f8, ef8, hif8, h⟩ := g_wr_some h
          refine b_iast hx hb hK hw 0 4 rfl (f := f6) rfl hif8 ef8 rfl (wb' := [k_Model g a o pasts length printed told state backX backY boxes frees bestFree bestTurned bestFirst bestSecond v spare past f8 isKept text paper left top wide high original turn boxX boxY boxW boxH freeAtX freeAtY freeW freeH begins ends tried aside]) rfl dX11_keep_37 (fun H locs hw => ?_)
          obtain ⟨x9, ex9, h⟩ := g_bd_nm h
          refine lv_iinc (v := x9) (lv' := [(2, .int x9), (0, .ref (a o)), (1, .int i1)]) hx hb dX11_keep_38 hl (k := 2) rfl (by rw [ex9]; rfl) (by decide) rfl (fun ls hl => ?_)
          refine lv_goto (tgt := 13) hx hb dX11_keep_41 (by decide) ?_
          exact ih13 x9 f8 _ _ _ hw (lv_sub hl [1, 2, 0] rfl) h
    exact hL13 g_fuel (0 : Int32) kept _ _ _ hw (lv_sub hl [1, 2, 0] rfl) h
  · rw [if_pos hc6] at h
    refine lv_iconst (v := -1) hx hb dX11_keep_9 (by decide) ?_
    obtain rfl := Option.some.inj h
    exact b_iret hQ hx hb hr hlk hw rfl dX11_keep_10
