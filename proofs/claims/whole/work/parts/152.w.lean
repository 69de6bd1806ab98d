set_option maxRecDepth 100000 in
set_option maxHeartbeats 4000000 in
theorem c_X11_pageOf (l : Launch) (D : va_G) (g : Nat → ClassId) (a : Nat → Nat) (o : Nat) (pasts : Int32) (length : Int32) (printed : Int32) (told : Int32) (state : Int64) (backX : Int32) (backY : Int32) (boxes : Int32) (frees : Int32) (bestFree : Int32) (bestTurned : Int32) (bestFirst : Int32) (bestSecond : Int32) (v : (Nat → Int32)) (spare : (Nat → Int32)) (past : (Nat → Int32)) (kept : (Nat → Int32)) (isKept : (Nat → Int32)) (text : (Nat → Int32)) (paper : (Nat → Int32)) (left : (Nat → Int32)) (top : (Nat → Int32)) (wide : (Nat → Int32)) (high : (Nat → Int32)) (original : (Nat → Int32)) (turn : (Nat → Int32)) (boxX : (Nat → Int32)) (boxY : (Nat → Int32)) (boxW : (Nat → Int32)) (boxH : (Nat → Int32)) (freeAtX : (Nat → Int32)) (freeAtY : (Nat → Int32)) (freeW : (Nat → Int32)) (freeH : (Nat → Int32)) (begins : (Nat → Int32)) (ends : (Nat → Int32)) (tried : (Nat → Int32)) (aside : (Nat → Int32)) (i1 : Int32) (u : Int32 × Int32 × Int32 × (Nat → Int32) × (Nat → Int32) × (Nat → Int32) × (Nat → Int32) × (Nat → Int32) × (Nat → Int32)) (h : f_X11_pageOf backX backY v left top wide high original turn i1 = some u) : b_Ct l yX11_pageOf cX11_pageOf 3 (some .int) 6 147 D g [.ref (a o), .int i1] [k_Model g a o pasts length printed told state backX backY boxes frees bestFree bestTurned bestFirst bestSecond v spare past kept isKept text paper left top wide high original turn boxX boxY boxW boxH freeAtX freeAtY freeW freeH begins ends tried aside] [k_Model g a o pasts length printed told state u.2.1 u.2.2.1 boxes frees bestFree bestTurned bestFirst bestSecond v spare past kept isKept text paper u.2.2.2.1 u.2.2.2.2.1 u.2.2.2.2.2.1 u.2.2.2.2.2.2.1 u.2.2.2.2.2.2.2.1 u.2.2.2.2.2.2.2.2 boxX boxY boxW boxH freeAtX freeAtY freeW freeH begins ends tried aside] (some (.int u.1)) := by
  refine b_start RX11 (by decide) rfl (Nat.le_of_ble_eq_true rfl) rfl ?_
  intro p e s m args below meth c A ls Q hQ hx hb hr hlk hml hown hT hK hA hw hl
  have hl : lv_has ls 3 [(0, .ref (a o)), (1, .int i1)] := hl
  unfold f_X11_pageOf at h
  refine lv_aload_n hx hb dX11_pageOf_0 rfl (lv_at hl 0 rfl) ?_
  refine lv_iload_n hx hb dX11_pageOf_1 rfl (lv_at hl 1 rfl) ?_
  obtain ⟨r1, er1, h⟩ := g_cl_some h
  refine b_callV hx hb hml hown hT hK hA hw mk_X11_138 (c_X11_isSprite l D g a o pasts length printed told state backX backY boxes frees bestFree bestTurned bestFirst bestSecond v spare past kept isKept text paper left top wide high original turn boxX boxY boxW boxH freeAtX freeAtY freeW freeH begins ends tried aside i1 r1 er1) [0] [] rfl (by decide) 0 0 rfl rfl rfl rfl hl.1 [] rfl (Nat.le_of_ble_eq_true rfl) ⟨Nat.le_of_ble_eq_true rfl, Nat.le_of_ble_eq_true rfl⟩ ⟨Nat.zero_le _, Nat.zero_le _⟩ dX11_pageOf_2 (wb' := [k_Model g a o pasts length printed told state backX backY boxes frees bestFree bestTurned bestFirst bestSecond v spare past kept isKept text paper left top wide high original turn boxX boxY boxW boxH freeAtX freeAtY freeW freeH begins ends tried aside]) rfl b_e0 1 rfl (by decide) (st2 := [.int r1]) rfl (fun H locs hw => ?_)
  obtain ⟨j18_10, ej18_10, h⟩ := g_jn_nm h
  have hj18_10 : ∀ (x2 : Int32) (x3 : Int32) (x4 : Int32) (f5 : Nat → Int32) (f6 : Nat → Int32) (f7 : Nat → Int32) (f8 : Nat → Int32) (f9 : Nat → Int32) (f10 : Nat → Int32) (H : Heap) (locs : List Loc) (ls : Array Slot), b_Wd D A s.heap H locs [k_Model g a o pasts length printed told state x3 x4 boxes frees bestFree bestTurned bestFirst bestSecond v spare past kept isKept text paper f5 f6 f7 f8 f9 f10 boxX boxY boxW boxH freeAtX freeAtY freeW freeH begins ends tried aside] → lv_has ls 3 [(0, .ref (a o))] → j18_10 x2 x3 x4 f5 f6 f7 f8 f9 f10 = some u → W p l e (g_rm 6 147) s m args below meth c H locs 0 0 Q (F0 m 18 ls [.int x2]) := by
    intro x2 x3 x4 f5 f6 f7 f8 f9 f10 H locs ls hw hl h
    subst ej18_10
    dsimp only at h
    refine lv_istore_n (lv' := [(2, .int x2), (0, .ref (a o))]) hx hb dX11_pageOf_18 rfl hl (by decide) rfl (fun ls hl => ?_)
    refine lv_iload_n hx hb dX11_pageOf_19 rfl (lv_at hl 0 rfl) ?_
    refine lv_bipush (v := -2) hx hb dX11_pageOf_20 (by decide) ?_
    refine lv_icmp_ne (tgt := 29) hx hb dX11_pageOf_22 (by decide) (fun hc22 => ?_) (fun hc22 => ?_)
    · rw [if_neg hc22] at h
      refine lv_iload_n hx hb dX11_pageOf_29 rfl (lv_at hl 0 rfl) ?_
      refine lv_if_ge (tgt := 38) hx hb dX11_pageOf_30 (by decide) (fun hc30 => ?_) (fun hc30 => ?_)
      · rw [if_pos hc30] at h
        refine lv_aload_n hx hb dX11_pageOf_38 rfl (lv_at hl 1 rfl) ?_
        refine b_get hx hb hT hK hown fl_X11_7 hw 0 0 rfl rfl (v := .ref (a (o+1))) rfl dX11_pageOf_39 ?_
        refine lv_iload_n hx hb dX11_pageOf_42 rfl (lv_at hl 0 rfl) ?_
        refine lv_iconst (v := 3) hx hb dX11_pageOf_43 (by decide) ?_
        refine b_callS hx hb hml hown hT hK hA hw mk_X11_94 (c_X11_at l D g x2 (3 : Int32)) [] [0] rfl (by decide) rfl hl.1 [.ref (a (o+1))] rfl (Nat.le_of_ble_eq_true rfl) ⟨Nat.le_of_ble_eq_true rfl, Nat.le_of_ble_eq_true rfl⟩ ⟨Nat.zero_le _, Nat.zero_le _⟩ dX11_pageOf_44 (wb' := [k_Model g a o pasts length printed told state x3 x4 boxes frees bestFree bestTurned bestFirst bestSecond v spare past kept isKept text paper f5 f6 f7 f8 f9 f10 boxX boxY boxW boxH freeAtX freeAtY freeW freeH begins ends tried aside]) rfl (b_e1 rfl b_e0) 1 rfl (by decide) (st2 := [.int (f_X11_at x2 (3 : Int32)), .ref (a (o+1))]) rfl (fun H locs hw => ?_)
        obtain ⟨x12, ex12, hix12, h⟩ := g_rd_some h
        refine b_iald hx hb hK hw 0 1 rfl (f := v) rfl hix12 ex12 dX11_pageOf_47 ?_
        obtain rfl := Option.some.inj h
        exact b_iret hQ hx hb hr hlk hw rfl dX11_pageOf_48
      · rw [if_neg hc30] at h
        refine lv_bipush (v := -4) hx hb dX11_pageOf_33 (by decide) ?_
        refine lv_goto (tgt := 48) hx hb dX11_pageOf_35 (by decide) ?_
        obtain rfl := Option.some.inj h
        exact b_iret hQ hx hb hr hlk hw rfl dX11_pageOf_48
    · rw [if_pos hc22] at h
      refine lv_iconst (v := -1) hx hb dX11_pageOf_25 (by decide) ?_
      refine lv_goto (tgt := 48) hx hb dX11_pageOf_26 (by decide) ?_
      obtain rfl := Option.some.inj h
      exact b_iret hQ hx hb hr hlk hw rfl dX11_pageOf_48
  refine lv_if_eq (tgt := 16) hx hb dX11_pageOf_5 (by decide) (fun hc5 => ?_) (fun hc5 => ?_)
  · rw [if_pos hc5] at h
    refine lv_bipush (v := -2) hx hb dX11_pageOf_16 (by decide) ?_
    exact hj18_10 (-2 : Int32) backX backY left top wide high original turn _ _ _ hw (lv_sub hl [0] rfl) h
  · rw [if_neg hc5] at h
    refine lv_aload_n hx hb dX11_pageOf_8 rfl (lv_at hl 0 rfl) ?_
    refine lv_iload_n hx hb dX11_pageOf_9 rfl (lv_at hl 1 rfl) ?_
    obtain ⟨r13, er13, h⟩ := g_cl_some h
    refine b_callV hx hb hml hown hT hK hA hw mk_X11_270 (c_X11_holder l D g a o pasts length printed told state backX backY boxes frees bestFree bestTurned bestFirst bestSecond v spare past kept isKept text paper left top wide high original turn boxX boxY boxW boxH freeAtX freeAtY freeW freeH begins ends tried aside i1 r13 er13) [0] [] rfl (by decide) 0 0 rfl rfl rfl rfl hl.1 [] rfl (Nat.le_of_ble_eq_true rfl) ⟨Nat.le_of_ble_eq_true rfl, Nat.le_of_ble_eq_true rfl⟩ ⟨Nat.zero_le _, Nat.zero_le _⟩ dX11_pageOf_10 (wb' := [k_Model g a o pasts length printed told state r13.2.1 r13.2.2.1 boxes frees bestFree bestTurned bestFirst bestSecond v spare past kept isKept text paper r13.2.2.2.1 r13.2.2.2.2.1 r13.2.2.2.2.2.1 r13.2.2.2.2.2.2.1 r13.2.2.2.2.2.2.2.1 r13.2.2.2.2.2.2.2.2 boxX boxY boxW boxH freeAtX freeAtY freeW freeH begins ends tried aside]) rfl b_e0 1 rfl (by decide) (st2 := [.int r13.1]) rfl (fun H locs hw => ?_)
    refine lv_goto (tgt := 18) hx hb dX11_pageOf_13 (by decide) ?_
    exact hj18_10 r13.1 r13.2.1 r13.2.2.1 r13.2.2.2.1 r13.2.2.2.2.1 r13.2.2.2.2.2.1 r13.2.2.2.2.2.2.1 r13.2.2.2.2.2.2.2.1 r13.2.2.2.2.2.2.2.2 _ _ _ hw (lv_sub hl [0] rfl) h
set_option maxRecDepth 100000 in
set_option maxHeartbeats 4000000 in
theorem c_X11_columnOf (l : Launch) (D : va_G) (g : Nat → ClassId) (a : Nat → Nat) (o : Nat) (pasts : Int32) (length : Int32) (printed : Int32) (told : Int32) (state : Int64) (backX : Int32) (backY : Int32) (boxes : Int32) (frees : Int32) (bestFree : Int32) (bestTurned : Int32) (bestFirst : Int32) (bestSecond : Int32) (v : (Nat → Int32)) (spare : (Nat → Int32)) (past : (Nat → Int32)) (kept : (Nat → Int32)) (isKept : (Nat → Int32)) (text : (Nat → Int32)) (paper : (Nat → Int32)) (left : (Nat → Int32)) (top : (Nat → Int32)) (wide : (Nat → Int32)) (high : (Nat → Int32)) (original : (Nat → Int32)) (turn : (Nat → Int32)) (boxX : (Nat → Int32)) (boxY : (Nat → Int32)) (boxW : (Nat → Int32)) (boxH : (Nat → Int32)) (freeAtX : (Nat → Int32)) (freeAtY : (Nat → Int32)) (freeW : (Nat → Int32)) (freeH : (Nat → Int32)) (begins : (Nat → Int32)) (ends : (Nat → Int32)) (tried : (Nat → Int32)) (aside : (Nat → Int32)) (i1 : Int32) (u : Int32) (h : f_X11_columnOf v i1 = some u) : b_Ct l yX11_columnOf cX11_columnOf 2 (some .int) 1 21 D g [.ref (a o), .int i1] [k_Model g a o pasts length printed told state backX backY boxes frees bestFree bestTurned bestFirst bestSecond v spare past kept isKept text paper left top wide high original turn boxX boxY boxW boxH freeAtX freeAtY freeW freeH begins ends tried aside] [k_Model g a o pasts length printed told state backX backY boxes frees bestFree bestTurned bestFirst bestSecond v spare past kept isKept text paper left top wide high original turn boxX boxY boxW boxH freeAtX freeAtY freeW freeH begins ends tried aside] (some (.int u)) := by
  refine b_start RX11 (by decide) rfl (Nat.le_of_ble_eq_true rfl) rfl ?_
  intro p e s m args below meth c A ls Q hQ hx hb hr hlk hml hown hT hK hA hw hl
  have hl : lv_has ls 2 [(0, .ref (a o)), (1, .int i1)] := hl
  unfold f_X11_columnOf at h
  refine lv_aload_n hx hb dX11_columnOf_0 rfl (lv_at hl 0 rfl) ?_
  refine b_get hx hb hT hK hown fl_X11_7 hw 0 0 rfl rfl (v := .ref (a (o+1))) rfl dX11_columnOf_1 ?_
  refine lv_iload_n hx hb dX11_columnOf_4 rfl (lv_at hl 1 rfl) ?_
  refine lv_iconst (v := 4) hx hb dX11_columnOf_5 (by decide) ?_
  refine b_callS hx hb hml hown hT hK hA hw mk_X11_94 (c_X11_at l D g i1 (4 : Int32)) [] [0] rfl (by decide) rfl hl.1 [.ref (a (o+1))] rfl (Nat.le_of_ble_eq_true rfl) ⟨Nat.le_of_ble_eq_true rfl, Nat.le_of_ble_eq_true rfl⟩ ⟨Nat.zero_le _, Nat.zero_le _⟩ dX11_columnOf_6 (wb' := [k_Model g a o pasts length printed told state backX backY boxes frees bestFree bestTurned bestFirst bestSecond v spare past kept isKept text paper left top wide high original turn boxX boxY boxW boxH freeAtX freeAtY freeW freeH begins ends tried aside]) rfl (b_e1 rfl b_e0) 1 rfl (by decide) (st2 := [.int (f_X11_at i1 (4 : Int32)), .ref (a (o+1))]) rfl (fun H locs hw => ?_)
  obtain ⟨x1, ex1, hix1, h⟩ := g_rd_some h
  refine b_iald hx hb hK hw 0 1 rfl (f := v) rfl hix1 ex1 dX11_columnOf_9 ?_
  refine lv_aload_n hx hb dX11_columnOf_10 rfl (lv_at hl 0 rfl) ?_
  refine b_get hx hb hT hK hown fl_X11_7 hw 0 0 rfl rfl (v := .ref (a (o+1))) rfl dX11_columnOf_11 ?_
  refine lv_iconst (v := 5) hx hb dX11_columnOf_14 (by decide) ?_
  obtain ⟨x2, ex2, hix2, h⟩ := g_rd_some h
  refine b_iald hx hb hK hw 0 1 rfl (f := v) rfl hix2 ex2 dX11_columnOf_15 ?_
  refine lv_iadd hx hb dX11_columnOf_16 ?_
  refine lv_aload_n hx hb dX11_columnOf_17 rfl (lv_at hl 0 rfl) ?_
  refine b_get hx hb hT hK hown fl_X11_7 hw 0 0 rfl rfl (v := .ref (a (o+1))) rfl dX11_columnOf_18 ?_
  refine lv_bipush (v := 6) hx hb dX11_columnOf_21 (by decide) ?_
  obtain ⟨x3, ex3, hix3, h⟩ := g_rd_some h
  refine b_iald hx hb hK hw 0 1 rfl (f := v) rfl hix3 ex3 dX11_columnOf_23 ?_
  refine lv_iadd hx hb dX11_columnOf_24 ?_
  obtain rfl := Option.some.inj h
  exact b_iret hQ hx hb hr hlk hw rfl dX11_columnOf_25
set_option maxRecDepth 100000 in
set_option maxHeartbeats 4000000 in
theorem c_X11_rowOf (l : Launch) (D : va_G) (g : Nat → ClassId) (a : Nat → Nat) (o : Nat) (pasts : Int32) (length : Int32) (printed : Int32) (told : Int32) (state : Int64) (backX : Int32) (backY : Int32) (boxes : Int32) (frees : Int32) (bestFree : Int32) (bestTurned : Int32) (bestFirst : Int32) (bestSecond : Int32) (v : (Nat → Int32)) (spare : (Nat → Int32)) (past : (Nat → Int32)) (kept : (Nat → Int32)) (isKept : (Nat → Int32)) (text : (Nat → Int32)) (paper : (Nat → Int32)) (left : (Nat → Int32)) (top : (Nat → Int32)) (wide : (Nat → Int32)) (high : (Nat → Int32)) (original : (Nat → Int32)) (turn : (Nat → Int32)) (boxX : (Nat → Int32)) (boxY : (Nat → Int32)) (boxW : (Nat → Int32)) (boxH : (Nat → Int32)) (freeAtX : (Nat → Int32)) (freeAtY : (Nat → Int32)) (freeW : (Nat → Int32)) (freeH : (Nat → Int32)) (begins : (Nat → Int32)) (ends : (Nat → Int32)) (tried : (Nat → Int32)) (aside : (Nat → Int32)) (i1 : Int32) (u : Int32) (h : f_X11_rowOf v i1 = some u) : b_Ct l yX11_rowOf cX11_rowOf 2 (some .int) 1 21 D g [.ref (a o), .int i1] [k_Model g a o pasts length printed told state backX backY boxes frees bestFree bestTurned bestFirst bestSecond v spare past kept isKept text paper left top wide high original turn boxX boxY boxW boxH freeAtX freeAtY freeW freeH begins ends tried aside] [k_Model g a o pasts length printed told state backX backY boxes frees bestFree bestTurned bestFirst bestSecond v spare past kept isKept text paper left top wide high original turn boxX boxY boxW boxH freeAtX freeAtY freeW freeH begins ends tried aside] (some (.int u)) := by
  refine b_start RX11 (by decide) rfl (Nat.le_of_ble_eq_true rfl) rfl ?_
  intro p e s m args below meth c A ls Q hQ hx hb hr hlk hml hown hT hK hA hw hl
  have hl : lv_has ls 2 [(0, .ref (a o)), (1, .int i1)] := hl
  unfold f_X11_rowOf at h
  refine lv_aload_n hx hb dX11_rowOf_0 rfl (lv_at hl 0 rfl) ?_
  refine b_get hx hb hT hK hown fl_X11_7 hw 0 0 rfl rfl (v := .ref (a (o+1))) rfl dX11_rowOf_1 ?_
  refine lv_iload_n hx hb dX11_rowOf_4 rfl (lv_at hl 1 rfl) ?_
  refine lv_iconst (v := 5) hx hb dX11_rowOf_5 (by decide) ?_
  refine b_callS hx hb hml hown hT hK hA hw mk_X11_94 (c_X11_at l D g i1 (5 : Int32)) [] [0] rfl (by decide) rfl hl.1 [.ref (a (o+1))] rfl (Nat.le_of_ble_eq_true rfl) ⟨Nat.le_of_ble_eq_true rfl, Nat.le_of_ble_eq_true rfl⟩ ⟨Nat.zero_le _, Nat.zero_le _⟩ dX11_rowOf_6 (wb' := [k_Model g a o pasts length printed told state backX backY boxes frees bestFree bestTurned bestFirst bestSecond v spare past kept isKept text paper left top wide high original turn boxX boxY boxW boxH freeAtX freeAtY freeW freeH begins ends tried aside]) rfl (b_e1 rfl b_e0) 1 rfl (by decide) (st2 := [.int (f_X11_at i1 (5 : Int32)), .ref (a (o+1))]) rfl (fun H locs hw => ?_)
  obtain ⟨x1, ex1, hix1, h⟩ := g_rd_some h
  refine b_iald hx hb hK hw 0 1 rfl (f := v) rfl hix1 ex1 dX11_rowOf_9 ?_
  refine lv_aload_n hx hb dX11_rowOf_10 rfl (lv_at hl 0 rfl) ?_
  refine b_get hx hb hT hK hown fl_X11_7 hw 0 0 rfl rfl (v := .ref (a (o+1))) rfl dX11_rowOf_11 ?_
  refine lv_iconst (v := 5) hx hb dX11_rowOf_14 (by decide) ?_
  obtain ⟨x2, ex2, hix2, h⟩ := g_rd_some h
  refine b_iald hx hb hK hw 0 1 rfl (f := v) rfl hix2 ex2 dX11_rowOf_15 ?_
  refine lv_iadd hx hb dX11_rowOf_16 ?_
  refine lv_aload_n hx hb dX11_rowOf_17 rfl (lv_at hl 0 rfl) ?_
  refine b_get hx hb hT hK hown fl_X11_7 hw 0 0 rfl rfl (v := .ref (a (o+1))) rfl dX11_rowOf_18 ?_
  refine lv_bipush (v := 6) hx hb dX11_rowOf_21 (by decide) ?_
  obtain ⟨x3, ex3, hix3, h⟩ := g_rd_some h
  refine b_iald hx hb hK hw 0 1 rfl (f := v) rfl hix3 ex3 dX11_rowOf_23 ?_
  refine lv_iadd hx hb dX11_rowOf_24 ?_
  obtain rfl := Option.some.inj h
  exact b_iret hQ hx hb hr hlk hw rfl dX11_rowOf_25
set_option maxRecDepth 100000 in
set_option maxHeartbeats 4000000 in
theorem c_X11_xOf (l : Launch) (D : va_G) (g : Nat → ClassId) (a : Nat → Nat) (o : Nat) (pasts : Int32) (length : Int32) (printed : Int32) (told : Int32) (state : Int64) (backX : Int32) (backY : Int32) (boxes : Int32) (frees : Int32) (bestFree : Int32) (bestTurned : Int32) (bestFirst : Int32) (bestSecond : Int32) (v : (Nat → Int32)) (spare : (Nat → Int32)) (past : (Nat → Int32)) (kept : (Nat → Int32)) (isKept : (Nat → Int32)) (text : (Nat → Int32)) (paper : (Nat → Int32)) (left : (Nat → Int32)) (top : (Nat → Int32)) (wide : (Nat → Int32)) (high : (Nat → Int32)) (original : (Nat → Int32)) (turn : (Nat → Int32)) (boxX : (Nat → Int32)) (boxY : (Nat → Int32)) (boxW : (Nat → Int32)) (boxH : (Nat → Int32)) (freeAtX : (Nat → Int32)) (freeAtY : (Nat → Int32)) (freeW : (Nat → Int32)) (freeH : (Nat → Int32)) (begins : (Nat → Int32)) (ends : (Nat → Int32)) (tried : (Nat → Int32)) (aside : (Nat → Int32)) (i1 : Int32) (u : Int32 × Int32 × Int32 × (Nat → Int32) × (Nat → Int32) × (Nat → Int32) × (Nat → Int32) × (Nat → Int32) × (Nat → Int32)) (h : f_X11_xOf backX backY v left top wide high original turn i1 = some u) : b_Ct l yX11_xOf cX11_xOf 3 (some .int) 6 147 D g [.ref (a o), .int i1] [k_Model g a o pasts length printed told state backX backY boxes frees bestFree bestTurned bestFirst bestSecond v spare past kept isKept text paper left top wide high original turn boxX boxY boxW boxH freeAtX freeAtY freeW freeH begins ends tried aside] [k_Model g a o pasts length printed told state u.2.1 u.2.2.1 boxes frees bestFree bestTurned bestFirst bestSecond v spare past kept isKept text paper u.2.2.2.1 u.2.2.2.2.1 u.2.2.2.2.2.1 u.2.2.2.2.2.2.1 u.2.2.2.2.2.2.2.1 u.2.2.2.2.2.2.2.2 boxX boxY boxW boxH freeAtX freeAtY freeW freeH begins ends tried aside] (some (.int u.1)) := by
  refine b_start RX11 (by decide) rfl (Nat.le_of_ble_eq_true rfl) rfl ?_
  intro p e s m args below meth c A ls Q hQ hx hb hr hlk hml hown hT hK hA hw hl
  have hl : lv_has ls 3 [(0, .ref (a o)), (1, .int i1)] := hl
  unfold f_X11_xOf at h
  refine lv_aload_n hx hb dX11_xOf_0 rfl (lv_at hl 0 rfl) ?_
  refine lv_iload_n hx hb dX11_xOf_1 rfl (lv_at hl 1 rfl) ?_
  obtain ⟨r1, er1, h⟩ := g_cl_some h
  refine b_callV hx hb hml hown hT hK hA hw mk_X11_138 (c_X11_isSprite l D g a o pasts length printed told state backX backY boxes frees bestFree bestTurned bestFirst bestSecond v spare past kept isKept text paper left top wide high original turn boxX boxY boxW boxH freeAtX freeAtY freeW freeH begins ends tried aside i1 r1 er1) [0] [] rfl (by decide) 0 0 rfl rfl rfl rfl hl.1 [] rfl (Nat.le_of_ble_eq_true rfl) ⟨Nat.le_of_ble_eq_true rfl, Nat.le_of_ble_eq_true rfl⟩ ⟨Nat.zero_le _, Nat.zero_le _⟩ dX11_xOf_2 (wb' := [k_Model g a o pasts length printed told state backX backY boxes frees bestFree bestTurned bestFirst bestSecond v spare past kept isKept text paper left top wide high original turn boxX boxY boxW boxH freeAtX freeAtY freeW freeH begins ends tried aside]) rfl b_e0 1 rfl (by decide) (st2 := [.int r1]) rfl (fun H locs hw => ?_)
  obtain ⟨j18_10, ej18_10, h⟩ := g_jn_nm h
  have hj18_10 : ∀ (x2 : Int32) (x3 : Int32) (x4 : Int32) (f5 : Nat → Int32) (f6 : Nat → Int32) (f7 : Nat → Int32) (f8 : Nat → Int32) (f9 : Nat → Int32) (f10 : Nat → Int32) (H : Heap) (locs : List Loc) (ls : Array Slot), b_Wd D A s.heap H locs [k_Model g a o pasts length printed told state x3 x4 boxes frees bestFree bestTurned bestFirst bestSecond v spare past kept isKept text paper f5 f6 f7 f8 f9 f10 boxX boxY boxW boxH freeAtX freeAtY freeW freeH begins ends tried aside] → lv_has ls 3 [(0, .ref (a o))] → j18_10 x2 x3 x4 f5 f6 f7 f8 f9 f10 = some u → W p l e (g_rm 6 147) s m args below meth c H locs 0 0 Q (F0 m 18 ls [.int x2]) := by
    intro x2 x3 x4 f5 f6 f7 f8 f9 f10 H locs ls hw hl h
    subst ej18_10
    dsimp only at h
    refine lv_istore_n (lv' := [(2, .int x2), (0, .ref (a o))]) hx hb dX11_xOf_18 rfl hl (by decide) rfl (fun ls hl => ?_)
    refine lv_iload_n hx hb dX11_xOf_19 rfl (lv_at hl 0 rfl) ?_
    refine lv_bipush (v := -2) hx hb dX11_xOf_20 (by decide) ?_
    refine lv_icmp_ne (tgt := 29) hx hb dX11_xOf_22 (by decide) (fun hc22 => ?_) (fun hc22 => ?_)
    · rw [if_neg hc22] at h
      refine lv_iload_n hx hb dX11_xOf_29 rfl (lv_at hl 0 rfl) ?_
      refine lv_if_ge (tgt := 38) hx hb dX11_xOf_30 (by decide) (fun hc30 => ?_) (fun hc30 => ?_)
      · rw [if_pos hc30] at h
        refine lv_aload_n hx hb dX11_xOf_38 rfl (lv_at hl 1 rfl) ?_
        refine lv_iload_n hx hb dX11_xOf_39 rfl (lv_at hl 0 rfl) ?_
        obtain ⟨r12, er12, h⟩ := g_cl_some h
        refine b_callV hx hb hml hown hT hK hA hw mk_X11_273 (c_X11_columnOf l D g a o pasts length printed told state x3 x4 boxes frees bestFree bestTurned bestFirst bestSecond v spare past kept isKept text paper f5 f6 f7 f8 f9 f10 boxX boxY boxW boxH freeAtX freeAtY freeW freeH begins ends tried aside x2 r12 er12) [0] [] rfl (by decide) 0 0 rfl rfl rfl rfl hl.1 [] rfl (Nat.le_of_ble_eq_true rfl) ⟨Nat.le_of_ble_eq_true rfl, Nat.le_of_ble_eq_true rfl⟩ ⟨Nat.zero_le _, Nat.zero_le _⟩ dX11_xOf_40 (wb' := [k_Model g a o pasts length printed told state x3 x4 boxes frees bestFree bestTurned bestFirst bestSecond v spare past kept isKept text paper f5 f6 f7 f8 f9 f10 boxX boxY boxW boxH freeAtX freeAtY freeW freeH begins ends tried aside]) rfl b_e0 1 rfl (by decide) (st2 := [.int r12]) rfl (fun H locs hw => ?_)
        obtain rfl := Option.some.inj h
        exact b_iret hQ hx hb hr hlk hw rfl dX11_xOf_43
      · rw [if_neg hc30] at h
        refine lv_bipush (v := -4) hx hb dX11_xOf_33 (by decide) ?_
        refine lv_goto (tgt := 43) hx hb dX11_xOf_35 (by decide) ?_
        obtain rfl := Option.some.inj h
        exact b_iret hQ hx hb hr hlk hw rfl dX11_xOf_43
    · rw [if_pos hc22] at h
      refine lv_iconst (v := -1) hx hb dX11_xOf_25 (by decide) ?_
      refine lv_goto (tgt := 43) hx hb dX11_xOf_26 (by decide) ?_
      obtain rfl := Option.some.inj h
      exact b_iret hQ hx hb hr hlk hw rfl dX11_xOf_43
  refine lv_if_eq (tgt := 16) hx hb dX11_xOf_5 (by decide) (fun hc5 => ?_) (fun hc5 => ?_)
  · rw [if_pos hc5] at h
    refine lv_bipush (v := -2) hx hb dX11_xOf_16 (by decide) ?_
    exact hj18_10 (-2 : Int32) backX backY left top wide high original turn _ _ _ hw (lv_sub hl [0] rfl) h
  · rw [if_neg hc5] at h
    refine lv_aload_n hx hb dX11_xOf_8 rfl (lv_at hl 0 rfl) ?_
    refine lv_iload_n hx hb dX11_xOf_9 rfl (lv_at hl 1 rfl) ?_
    obtain ⟨r13, er13, h⟩ := g_cl_some h
    refine b_callV hx hb hml hown hT hK hA hw mk_X11_270 (c_X11_holder l D g a o pasts length printed told state backX backY boxes frees bestFree bestTurned bestFirst bestSecond v spare past kept isKept text paper left top wide high original turn boxX boxY boxW boxH freeAtX freeAtY freeW freeH begins ends tried aside i1 r13 er13) [0] [] rfl (by decide) 0 0 rfl rfl rfl rfl hl.1 [] rfl (Nat.le_of_ble_eq_true rfl) ⟨Nat.le_of_ble_eq_true rfl, Nat.le_of_ble_eq_true rfl⟩ ⟨Nat.zero_le _, Nat.zero_le _⟩ dX11_xOf_10 (wb' := [k_Model g a o pasts length printed told state r13.2.1 r13.2.2.1 boxes frees bestFree bestTurned bestFirst bestSecond v spare past kept isKept text paper r13.2.2.2.1 r13.2.2.2.2.1 r13.2.2.2.2.2.1 r13.2.2.2.2.2.2.1 r13.2.2.2.2.2.2.2.1 r13.2.2.2.2.2.2.2.2 boxX boxY boxW boxH freeAtX freeAtY freeW freeH begins ends tried aside]) rfl b_e0 1 rfl (by decide) (st2 := [.int r13.1]) rfl (fun H locs hw => ?_)
    refine lv_goto (tgt := 18) hx hb dX11_xOf_13 (by decide) ?_
    exact hj18_10 r13.1 r13.2.1 r13.2.2.1 r13.2.2.2.1 r13.2.2.2.2.1 r13.2.2.2.2.2.1 r13.2.2.2.2.2.2.1 r13.2.2.2.2.2.2.2.1 r13.2.2.2.2.2.2.2.2 _ _ _ hw (lv_sub hl [0] rfl) h
set_option maxRecDepth 100000 in
set_option maxHeartbeats 4000000 in
theorem c_X11_yOf (l : Launch) (D : va_G) (g : Nat → ClassId) (a : Nat → Nat) (o : Nat) (pasts : Int32) (length : Int32) (printed : Int32) (told : Int32) (state : Int64) (backX : Int32) (backY : Int32) (boxes : Int32) (frees : Int32) (bestFree : Int32) (bestTurned : Int32) (bestFirst : Int32) (bestSecond : Int32) (v : (Nat → Int32)) (spare : (Nat → Int32)) (past : (Nat → Int32)) (kept : (Nat → Int32)) (isKept : (Nat → Int32)) (text : (Nat → Int32)) (paper : (Nat → Int32)) (left : (Nat → Int32)) (top : (Nat → Int32)) (wide : (Nat → Int32)) (high : (Nat → Int32)) (original : (Nat → Int32)) (turn : (Nat → Int32)) (boxX : (Nat → Int32)) (boxY : (Nat → Int32)) (boxW : (Nat → Int32)) (boxH : (Nat → Int32)) (freeAtX : (Nat → Int32)) (freeAtY : (Nat → Int32)) (freeW : (Nat → Int32)) (freeH : (Nat → Int32)) (begins : (Nat → Int32)) (ends : (Nat → Int32)) (tried : (Nat → Int32)) (aside : (Nat → Int32)) (i1 : Int32) (u : Int32 × Int32 × Int32 × (Nat → Int32) × (Nat → Int32) × (Nat → Int32) × (Nat → Int32) × (Nat → Int32) × (Nat → Int32)) (h : f_X11_yOf backX backY v left top wide high original turn i1 = some u) : b_Ct l yX11_yOf cX11_yOf 3 (some .int) 6 147 D g [.ref (a o), .int i1] [k_Model g a o pasts length printed told state backX backY boxes frees bestFree bestTurned bestFirst bestSecond v spare past kept isKept text paper left top wide high original turn boxX boxY boxW boxH freeAtX freeAtY freeW freeH begins ends tried aside] [k_Model g a o pasts length printed told state u.2.1 u.2.2.1 boxes frees bestFree bestTurned bestFirst bestSecond v spare past kept isKept text paper u.2.2.2.1 u.2.2.2.2.1 u.2.2.2.2.2.1 u.2.2.2.2.2.2.1 u.2.2.2.2.2.2.2.1 u.2.2.2.2.2.2.2.2 boxX boxY boxW boxH freeAtX freeAtY freeW freeH begins ends tried aside] (some (.int u.1)) := by
  refine b_start RX11 (by decide) rfl (Nat.le_of_ble_eq_true rfl) rfl ?_
  intro p e s m args below meth c A ls Q hQ hx hb hr hlk hml hown hT hK hA hw hl
  have hl : lv_has ls 3 [(0, .ref (a o)), (1, .int i1)] := hl
  unfold f_X11_yOf at h
  refine lv_aload_n hx hb dX11_yOf_0 rfl (lv_at hl 0 rfl) ?_
  refine lv_iload_n hx hb dX11_yOf_1 rfl (lv_at hl 1 rfl) ?_
  obtain ⟨r1, er1, h⟩ := g_cl_some h
  refine b_callV hx hb hml hown hT hK hA hw mk_X11_138 (c_X11_isSprite l D g a o pasts length printed told state backX backY boxes frees bestFree bestTurned bestFirst bestSecond v spare past kept isKept text paper left top wide high original turn boxX boxY boxW boxH freeAtX freeAtY freeW freeH begins ends tried aside i1 r1 er1) [0] [] rfl (by decide) 0 0 rfl rfl rfl rfl hl.1 [] rfl (Nat.le_of_ble_eq_true rfl) ⟨Nat.le_of_ble_eq_true rfl, Nat.le_of_ble_eq_true rfl⟩ ⟨Nat.zero_le _, Nat.zero_le _⟩ dX11_yOf_2 (wb' := [k_Model g a o pasts length printed told state backX backY boxes frees bestFree bestTurned bestFirst bestSecond v spare past kept isKept text paper left top wide high original turn boxX boxY boxW boxH freeAtX freeAtY freeW freeH begins ends tried aside]) rfl b_e0 1 rfl (by decide) (st2 := [.int r1]) rfl (fun H locs hw => ?_)
  obtain ⟨j18_10, ej18_10, h⟩ := g_jn_nm h
  have hj18_10 : ∀ (x2 : Int32) (x3 : Int32) (x4 : Int32) (f5 : Nat → Int32) (f6 : Nat → Int32) (f7 : Nat → Int32) (f8 : Nat → Int32) (f9 : Nat → Int32) (f10 : Nat → Int32) (H : Heap) (locs : List Loc) (ls : Array Slot), b_Wd D A s.heap H locs [k_Model g a o pasts length printed told state x3 x4 boxes frees bestFree bestTurned bestFirst bestSecond v spare past kept isKept text paper f5 f6 f7 f8 f9 f10 boxX boxY boxW boxH freeAtX freeAtY freeW freeH begins ends tried aside] → lv_has ls 3 [(0, .ref (a o))] → j18_10 x2 x3 x4 f5 f6 f7 f8 f9 f10 = some u → W p l e (g_rm 6 147) s m args below meth c H locs 0 0 Q (F0 m 18 ls [.int x2]) := by
    intro x2 x3 x4 f5 f6 f7 f8 f9 f10 H locs ls hw hl h
    subst ej18_10
    dsimp only at h
    refine lv_istore_n (lv' := [(2, .int x2), (0, .ref (a o))]) hx hb dX11_yOf_18 rfl hl (by decide) rfl (fun ls hl => ?_)
    refine lv_iload_n hx hb dX11_yOf_19 rfl (lv_at hl 0 rfl) ?_
    refine lv_bipush (v := -2) hx hb dX11_yOf_20 (by decide) ?_
    refine lv_icmp_ne (tgt := 29) hx hb dX11_yOf_22 (by decide) (fun hc22 => ?_) (fun hc22 => ?_)
    · rw [if_neg hc22] at h
      refine lv_iload_n hx hb dX11_yOf_29 rfl (lv_at hl 0 rfl) ?_
      refine lv_if_ge (tgt := 38) hx hb dX11_yOf_30 (by decide) (fun hc30 => ?_) (fun hc30 => ?_)
      · rw [if_pos hc30] at h
        refine lv_aload_n hx hb dX11_yOf_38 rfl (lv_at hl 1 rfl) ?_
        refine lv_iload_n hx hb dX11_yOf_39 rfl (lv_at hl 0 rfl) ?_
        obtain ⟨r12, er12, h⟩ := g_cl_some h
        refine b_callV hx hb hml hown hT hK hA hw mk_X11_276 (c_X11_rowOf l D g a o pasts length printed told state x3 x4 boxes frees bestFree bestTurned bestFirst bestSecond v spare past kept isKept text paper f5 f6 f7 f8 f9 f10 boxX boxY boxW boxH freeAtX freeAtY freeW freeH begins ends tried aside x2 r12 er12) [0] [] rfl (by decide) 0 0 rfl rfl rfl rfl hl.1 [] rfl (Nat.le_of_ble_eq_true rfl) ⟨Nat.le_of_ble_eq_true rfl, Nat.le_of_ble_eq_true rfl⟩ ⟨Nat.zero_le _, Nat.zero_le _⟩ dX11_yOf_40 (wb' := [k_Model g a o pasts length printed told state x3 x4 boxes frees bestFree bestTurned bestFirst bestSecond v spare past kept isKept text paper f5 f6 f7 f8 f9 f10 boxX boxY boxW boxH freeAtX freeAtY freeW freeH begins ends tried aside]) rfl b_e0 1 rfl (by decide) (st2 := [.int r12]) rfl (fun H locs hw => ?_)
        obtain rfl := Option.some.inj h
        exact b_iret hQ hx hb hr hlk hw rfl dX11_yOf_43
      · rw [if_neg hc30] at h
        refine lv_bipush (v := -4) hx hb dX11_yOf_33 (by decide) ?_
        refine lv_goto (tgt := 43) hx hb dX11_yOf_35 (by decide) ?_
        obtain rfl := Option.some.inj h
        exact b_iret hQ hx hb hr hlk hw rfl dX11_yOf_43
    · rw [if_pos hc22] at h
      refine lv_iconst (v := -1) hx hb dX11_yOf_25 (by decide) ?_
      refine lv_goto (tgt := 43) hx hb dX11_yOf_26 (by decide) ?_
      obtain rfl := Option.some.inj h
      exact b_iret hQ hx hb hr hlk hw rfl dX11_yOf_43
  refine lv_if_eq (tgt := 16) hx hb dX11_yOf_5 (by decide) (fun hc5 => ?_) (fun hc5 => ?_)
  · rw [if_pos hc5] at h
    refine lv_bipush (v := -2) hx hb dX11_yOf_16 (by decide) ?_
    exact hj18_10 (-2 : Int32) backX backY left top wide high original turn _ _ _ hw (lv_sub hl [0] rfl) h
  · rw [if_neg hc5] at h
    refine lv_aload_n hx hb dX11_yOf_8 rfl (lv_at hl 0 rfl) ?_
    refine lv_iload_n hx hb dX11_yOf_9 rfl (lv_at hl 1 rfl) ?_
    obtain ⟨r13, er13, h⟩ := g_cl_some h
    refine b_callV hx hb hml hown hT hK hA hw mk_X11_270 (c_X11_holder l D g a o pasts length printed told state backX backY boxes frees bestFree bestTurned bestFirst bestSecond v spare past kept isKept text paper left top wide high original turn boxX boxY boxW boxH freeAtX freeAtY freeW freeH begins ends tried aside i1 r13 er13) [0] [] rfl (by decide) 0 0 rfl rfl rfl rfl hl.1 [] rfl (Nat.le_of_ble_eq_true rfl) ⟨Nat.le_of_ble_eq_true rfl, Nat.le_of_ble_eq_true rfl⟩ ⟨Nat.zero_le _, Nat.zero_le _⟩ dX11_yOf_10 (wb' := [k_Model g a o pasts length printed told state r13.2.1 r13.2.2.1 boxes frees bestFree bestTurned bestFirst bestSecond v spare past kept isKept text paper r13.2.2.2.1 r13.2.2.2.2.1 r13.2.2.2.2.2.1 r13.2.2.2.2.2.2.1 r13.2.2.2.2.2.2.2.1 r13.2.2.2.2.2.2.2.2 boxX boxY boxW boxH freeAtX freeAtY freeW freeH begins ends tried aside]) rfl b_e0 1 rfl (by decide) (st2 := [.int r13.1]) rfl (fun H locs hw => ?_)
    refine lv_goto (tgt := 18) hx hb dX11_yOf_13 (by decide) ?_
    exact hj18_10 r13.1 r13.2.1 r13.2.2.1 r13.2.2.2.1 r13.2.2.2.2.1 r13.2.2.2.2.2.1 r13.2.2.2.2.2.2.1 r13.2.2.2.2.2.2.2.1 r13.2.2.2.2.2.2.2.2 _ _ _ hw (lv_sub hl [0] rfl) h
set_option maxRecDepth 100000 in
set_option maxHeartbeats 4000000 in
theorem c_X11_isTurned (l : Launch) (D : va_G) (g : Nat → ClassId) (a : Nat → Nat) (o : Nat) (pasts : Int32) (length : Int32) (printed : Int32) (told : Int32) (state : Int64) (backX : Int32) (backY : Int32) (boxes : Int32) (frees : Int32) (bestFree : Int32) (bestTurned : Int32) (bestFirst : Int32) (bestSecond : Int32) (v : (Nat → Int32)) (spare : (Nat → Int32)) (past : (Nat → Int32)) (kept : (Nat → Int32)) (isKept : (Nat → Int32)) (text : (Nat → Int32)) (paper : (Nat → Int32)) (left : (Nat → Int32)) (top : (Nat → Int32)) (wide : (Nat → Int32)) (high : (Nat → Int32)) (original : (Nat → Int32)) (turn : (Nat → Int32)) (boxX : (Nat → Int32)) (boxY : (Nat → Int32)) (boxW : (Nat → Int32)) (boxH : (Nat → Int32)) (freeAtX : (Nat → Int32)) (freeAtY : (Nat → Int32)) (freeW : (Nat → Int32)) (freeH : (Nat → Int32)) (begins : (Nat → Int32)) (ends : (Nat → Int32)) (tried : (Nat → Int32)) (aside : (Nat → Int32)) (i1 : Int32) (u : Int32 × Int32 × Int32 × (Nat → Int32) × (Nat → Int32) × (Nat → Int32) × (Nat → Int32) × (Nat → Int32) × (Nat → Int32)) (h : f_X11_isTurned backX backY v left top wide high original turn i1 = some u) : b_Ct l yX11_isTurned cX11_isTurned 3 (some .int) 6 147 D g [.ref (a o), .int i1] [k_Model g a o pasts length printed told state backX backY boxes frees bestFree bestTurned bestFirst bestSecond v spare past kept isKept text paper left top wide high original turn boxX boxY boxW boxH freeAtX freeAtY freeW freeH begins ends tried aside] [k_Model g a o pasts length printed told state u.2.1 u.2.2.1 boxes frees bestFree bestTurned bestFirst bestSecond v spare past kept isKept text paper u.2.2.2.1 u.2.2.2.2.1 u.2.2.2.2.2.1 u.2.2.2.2.2.2.1 u.2.2.2.2.2.2.2.1 u.2.2.2.2.2.2.2.2 boxX boxY boxW boxH freeAtX freeAtY freeW freeH begins ends tried aside] (some (.int u.1)) := by
  refine b_start RX11 (by decide) rfl (Nat.le_of_ble_eq_true rfl) rfl ?_
  intro p e s m args below meth c A ls Q hQ hx hb hr hlk hml hown hT hK hA hw hl
  have hl : lv_has ls 3 [(0, .ref (a o)), (1, .int i1)] := hl
  unfold f_X11_isTurned at h
  refine lv_aload_n hx hb dX11_isTurned_0 rfl (lv_at hl 0 rfl) ?_
  refine lv_iload_n hx hb dX11_isTurned_1 rfl (lv_at hl 1 rfl) ?_
  obtain ⟨r1, er1, h⟩ := g_cl_some h
  refine b_callV hx hb hml hown hT hK hA hw mk_X11_138 (c_X11_isSprite l D g a o pasts length printed told state backX backY boxes frees bestFree bestTurned bestFirst bestSecond v spare past kept isKept text paper left top wide high original turn boxX boxY boxW boxH freeAtX freeAtY freeW freeH begins ends tried aside i1 r1 er1) [0] [] rfl (by decide) 0 0 rfl rfl rfl rfl hl.1 [] rfl (Nat.le_of_ble_eq_true rfl) ⟨Nat.le_of_ble_eq_true rfl, Nat.le_of_ble_eq_true rfl⟩ ⟨Nat.zero_le _, Nat.zero_le _⟩ dX11_isTurned_2 (wb' := [k_Model g a o pasts length printed told state backX backY boxes frees bestFree bestTurned bestFirst bestSecond v spare past kept isKept text paper left top wide high original turn boxX boxY boxW boxH freeAtX freeAtY freeW freeH begins ends tried aside]) rfl b_e0 1 rfl (by decide) (st2 := [.int r1]) rfl (fun H locs hw => ?_)
  obtain ⟨j18_10, ej18_10, h⟩ := g_jn_nm h
  have hj18_10 : ∀ (x2 : Int32) (x3 : Int32) (x4 : Int32) (f5 : Nat → Int32) (f6 : Nat → Int32) (f7 : Nat → Int32) (f8 : Nat → Int32) (f9 : Nat → Int32) (f10 : Nat → Int32) (H : Heap) (locs : List Loc) (ls : Array Slot), b_Wd D A s.heap H locs [k_Model g a o pasts length printed told state x3 x4 boxes frees bestFree bestTurned bestFirst bestSecond v spare past kept isKept text paper f5 f6 f7 f8 f9 f10 boxX boxY boxW boxH freeAtX freeAtY freeW freeH begins ends tried aside] → lv_has ls 3 [(0, .ref (a o))] → j18_10 x2 x3 x4 f5 f6 f7 f8 f9 f10 = some u → W p l e (g_rm 6 147) s m args below meth c H locs 0 0 Q (F0 m 18 ls [.int x2]) := by
    intro x2 x3 x4 f5 f6 f7 f8 f9 f10 H locs ls hw hl h
    subst ej18_10
    dsimp only at h
    refine lv_istore_n (lv' := [(2, .int x2), (0, .ref (a o))]) hx hb dX11_isTurned_18 rfl hl (by decide) rfl (fun ls hl => ?_)
    refine lv_iload_n hx hb dX11_isTurned_19 rfl (lv_at hl 0 rfl) ?_
    refine lv_bipush (v := -2) hx hb dX11_isTurned_20 (by decide) ?_
    refine lv_icmp_ne (tgt := 29) hx hb dX11_isTurned_22 (by decide) (fun hc22 => ?_) (fun hc22 => ?_)
    · rw [if_neg hc22] at h
      refine lv_iload_n hx hb dX11_isTurned_29 rfl (lv_at hl 0 rfl) ?_
      refine lv_if_ge (tgt := 38) hx hb dX11_isTurned_30 (by decide) (fun hc30 => ?_) (fun hc30 => ?_)
      · rw [if_pos hc30] at h
        refine lv_aload_n hx hb dX11_isTurned_38 rfl (lv_at hl 1 rfl) ?_
        refine b_get hx hb hT hK hown fl_X11_7 hw 0 0 rfl rfl (v := .ref (a (o+1))) rfl dX11_isTurned_39 ?_
        refine lv_iload_n hx hb dX11_isTurned_42 rfl (lv_at hl 0 rfl) ?_
        refine lv_bipush (v := 6) hx hb dX11_isTurned_43 (by decide) ?_
        refine b_callS hx hb hml hown hT hK hA hw mk_X11_94 (c_X11_at l D g x2 (6 : Int32)) [] [0] rfl (by decide) rfl hl.1 [.ref (a (o+1))] rfl (Nat.le_of_ble_eq_true rfl) ⟨Nat.le_of_ble_eq_true rfl, Nat.le_of_ble_eq_true rfl⟩ ⟨Nat.zero_le _, Nat.zero_le _⟩ dX11_isTurned_45 (wb' := [k_Model g a o pasts length printed told state x3 x4 boxes frees bestFree bestTurned bestFirst bestSecond v spare past kept isKept text paper f5 f6 f7 f8 f9 f10 boxX boxY boxW boxH freeAtX freeAtY freeW freeH begins ends tried aside]) rfl (b_e1 rfl b_e0) 1 rfl (by decide) (st2 := [.int (f_X11_at x2 (6 : Int32)), .ref (a (o+1))]) rfl (fun H locs hw => ?_)
        obtain ⟨x12, ex12, hix12, h⟩ := g_rd_some h
        refine b_iald hx hb hK hw 0 1 rfl (f := v) rfl hix12 ex12 dX11_isTurned_48 ?_
        obtain rfl := Option.some.inj h
        exact b_iret hQ hx hb hr hlk hw rfl dX11_isTurned_49
      · rw [if_neg hc30] at h
        refine lv_bipush (v := -4) hx hb dX11_isTurned_33 (by decide) ?_
        refine lv_goto (tgt := 49) hx hb dX11_isTurned_35 (by decide) ?_
        obtain rfl := Option.some.inj h
        exact b_iret hQ hx hb hr hlk hw rfl dX11_isTurned_49
    · rw [if_pos hc22] at h
      refine lv_iconst (v := -1) hx hb dX11_isTurned_25 (by decide) ?_
      refine lv_goto (tgt := 49) hx hb dX11_isTurned_26 (by decide) ?_
      obtain rfl := Option.some.inj h
      exact b_iret hQ hx hb hr hlk hw rfl dX11_isTurned_49
  refine lv_if_eq (tgt := 16) hx hb dX11_isTurned_5 (by decide) (fun hc5 => ?_) (fun hc5 => ?_)
  · rw [if_pos hc5] at h
    refine lv_bipush (v := -2) hx hb dX11_isTurned_16 (by decide) ?_
    exact hj18_10 (-2 : Int32) backX backY left top wide high original turn _ _ _ hw (lv_sub hl [0] rfl) h
  · rw [if_neg hc5] at h
    refine lv_aload_n hx hb dX11_isTurned_8 rfl (lv_at hl 0 rfl) ?_
    refine lv_iload_n hx hb dX11_isTurned_9 rfl (lv_at hl 1 rfl) ?_
    obtain ⟨r13, er13, h⟩ := g_cl_some h
    refine b_callV hx hb hml hown hT hK hA hw mk_X11_270 (c_X11_holder l D g a o pasts length printed told state backX backY boxes frees bestFree bestTurned bestFirst bestSecond v spare past kept isKept text paper left top wide high original turn boxX boxY boxW boxH freeAtX freeAtY freeW freeH begins ends tried aside i1 r13 er13) [0] [] rfl (by decide) 0 0 rfl rfl rfl rfl hl.1 [] rfl (Nat.le_of_ble_eq_true rfl) ⟨Nat.le_of_ble_eq_true rfl, Nat.le_of_ble_eq_true rfl⟩ ⟨Nat.zero_le _, Nat.zero_le _⟩ dX11_isTurned_10 (wb' := [k_Model g a o pasts length printed told state r13.2.1 r13.2.2.1 boxes frees bestFree bestTurned bestFirst bestSecond v spare past kept isKept text paper r13.2.2.2.1 r13.2.2.2.2.1 r13.2.2.2.2.2.1 r13.2.2.2.2.2.2.1 r13.2.2.2.2.2.2.2.1 r13.2.2.2.2.2.2.2.2 boxX boxY boxW boxH freeAtX freeAtY freeW freeH begins ends tried aside]) rfl b_e0 1 rfl (by decide) (st2 := [.int r13.1]) rfl (fun H locs hw => ?_)
    refine lv_goto (tgt := 18) hx hb dX11_isTurned_13 (by decide) ?_
    exact hj18_10 r13.1 r13.2.1 r13.2.2.1 r13.2.2.2.1 r13.2.2.2.2.1 r13.2.2.2.2.2.1 r13.2.2.2.2.2.2.1 r13.2.2.2.2.2.2.2.1 r13.2.2.2.2.2.2.2.2 _ _ _ hw (lv_sub hl [0] rfl) h
set_option maxRecDepth 100000 in
set_option maxHeartbeats 4000000 in
theorem c_X11_record (l : Launch) (D : va_G) (g : Nat → ClassId) (a : Nat → Nat) (o : Nat) (pasts : Int32) (length : Int32) (printed : Int32) (told : Int32) (state : Int64) (backX : Int32) (backY : Int32) (boxes : Int32) (frees : Int32) (bestFree : Int32) (bestTurned : Int32) (bestFirst : Int32) (bestSecond : Int32) (v : (Nat → Int32)) (spare : (Nat → Int32)) (past : (Nat → Int32)) (kept : (Nat → Int32)) (isKept : (Nat → Int32)) (text : (Nat → Int32)) (paper : (Nat → Int32)) (left : (Nat → Int32)) (top : (Nat → Int32)) (wide : (Nat → Int32)) (high : (Nat → Int32)) (original : (Nat → Int32)) (turn : (Nat → Int32)) (boxX : (Nat → Int32)) (boxY : (Nat → Int32)) (boxW : (Nat → Int32)) (boxH : (Nat → Int32)) (freeAtX : (Nat → Int32)) (freeAtY : (Nat → Int32)) (freeW : (Nat → Int32)) (freeH : (Nat → Int32)) (begins : (Nat → Int32)) (ends : (Nat → Int32)) (tried : (Nat → Int32)) (aside : (Nat → Int32)) (i1 : Int32) (i2 : Int32) (u : Int32 × Int32 × Int32) (h : f_X11_record backX backY v left top wide high i1 i2 = some u) : b_Ct l yX11_record cX11_record 4 (some .int) 3 81 D g [.ref (a o), .int i1, .int i2] [k_Model g a o pasts length printed told state backX backY boxes frees bestFree bestTurned bestFirst bestSecond v spare past kept isKept text paper left top wide high original turn boxX boxY boxW boxH freeAtX freeAtY freeW freeH begins ends tried aside] [k_Model g a o pasts length printed told state u.2.1 u.2.2 boxes frees bestFree bestTurned bestFirst bestSecond v spare past kept isKept text paper left top wide high original turn boxX boxY boxW boxH freeAtX freeAtY freeW freeH begins ends tried aside] (some (.int u.1)) := by
  refine b_start RX11 (by decide) rfl (Nat.le_of_ble_eq_true rfl) rfl ?_
  intro p e s m args below meth c A ls Q hQ hx hb hr hlk hml hown hT hK hA hw hl
  have hl : lv_has ls 4 [(0, .ref (a o)), (1, .int i1), (2, .int i2)] := hl
  unfold f_X11_record at h
  refine lv_iconst (v := 0) hx hb dX11_record_0 (by decide) ?_
  refine lv_istore_n (lv' := [(3, .int (0 : Int32)), (0, .ref (a o)), (1, .int i1), (2, .int i2)]) hx hb dX11_record_1 rfl hl (by decide) rfl (fun ls hl => ?_)
  have hL2 : ∀ (n : Nat) (x1 : Int32) (x2 : Int32) (x3 : Int32) (H : Heap) (locs : List Loc) (ls : Array Slot), b_Wd D A s.heap H locs [k_Model g a o pasts length printed told state x2 x3 boxes frees bestFree bestTurned bestFirst bestSecond v spare past kept isKept text paper left top wide high original turn boxX boxY boxW boxH freeAtX freeAtY freeW freeH begins ends tried aside] → lv_has ls 4 [(0, .ref (a o)), (1, .int i1), (2, .int i2), (3, .int x1)] → f_X11_record_L2 v left top wide high i1 i2 n x1 x2 x3 = some u → W p l e (g_rm 3 81) s m args below meth c H locs 0 0 Q (F0 m 2 ls []) := by
    intro n
    induction n with
    | zero =>
      intro x1 x2 x3 H locs ls hw hl h
      cases (show none = some u from h)
    | succ n ih2 =>
      intro x1 x2 x3 H locs ls hw hl h
      rw [f_X11_record_L2] at h
      refine lv_iload_n hx hb dX11_record_2 rfl (lv_at hl 3 rfl) ?_
      refine lv_bipush (v := 7) hx hb dX11_record_3 (by decide) ?_
      refine lv_icmp_ge (tgt := 35) hx hb dX11_record_5 (by decide) (fun hc5 => ?_) (fun hc5 => ?_)
      · rw [if_pos hc5] at h
        refine lv_iload_n hx hb dX11_record_35 rfl (lv_at hl 3 rfl) ?_
        obtain rfl := Option.some.inj h
        exact b_iret hQ hx hb hr hlk hw rfl dX11_record_36
      · rw [if_neg hc5] at h
        refine lv_aload_n hx hb dX11_record_8 rfl (lv_at hl 0 rfl) ?_
        refine lv_iload_n hx hb dX11_record_9 rfl (lv_at hl 1 rfl) ?_
        refine lv_iload_n hx hb dX11_record_10 rfl (lv_at hl 2 rfl) ?_
        refine lv_aload_n hx hb dX11_record_11 rfl (lv_at hl 0 rfl) ?_
        refine b_get hx hb hT hK hown fl_X11_7 hw 0 0 rfl rfl (v := .ref (a (o+1))) rfl dX11_record_12 ?_
        refine lv_iload_n hx hb dX11_record_15 rfl (lv_at hl 2 rfl) ?_
        refine lv_bipush (v := 6) hx hb dX11_record_16 (by decide) ?_
        refine b_callS hx hb hml hown hT hK hA hw mk_X11_94 (c_X11_at l D g i2 (6 : Int32)) [] [0] rfl (by decide) rfl hl.1 [.ref (a (o+1)), .int i2, .int i1, .ref (a o)] rfl (Nat.le_of_ble_eq_true rfl) ⟨Nat.le_of_ble_eq_true rfl, Nat.le_of_ble_eq_true rfl⟩ ⟨Nat.zero_le _, Nat.zero_le _⟩ dX11_record_18 (wb' := [k_Model g a o pasts length printed told state x2 x3 boxes frees bestFree bestTurned bestFirst bestSecond v spare past kept isKept text paper left top wide high original turn boxX boxY boxW boxH freeAtX freeAtY freeW freeH begins ends tried aside]) rfl (b_e1 rfl b_e0) 1 rfl (by decide) (st2 := [.int (f_X11_at i2 (6 : Int32)), .ref (a (o+1)), .int i2, .int i1, .ref (a o)]) rfl (fun H locs hw => ?_)
        obtain ⟨x4, ex4, hix4, h⟩ := g_rd_some h
        refine b_iald hx hb hK hw 0 1 rfl (f := v) rfl hix4 ex4 dX11_record_21 ?_
        refine lv_iload_n hx hb dX11_record_22 rfl (lv_at hl 3 rfl) ?_
        obtain ⟨r5, er5, h⟩ := g_cl_some h
        refine b_callV hx hb hml hown hT hK hA hw mk_X11_165 (c_X11_isLike l D g a o pasts length printed told state x2 x3 boxes frees bestFree bestTurned bestFirst bestSecond v spare past kept isKept text paper left top wide high original turn boxX boxY boxW boxH freeAtX freeAtY freeW freeH begins ends tried aside i1 i2 x4 x1 r5 er5) [0] [] rfl (by decide) 0 0 rfl rfl rfl rfl hl.1 [] rfl (Nat.le_of_ble_eq_true rfl) ⟨Nat.le_of_ble_eq_true rfl, Nat.le_of_ble_eq_true rfl⟩ ⟨Nat.zero_le _, Nat.zero_le _⟩ dX11_record_23 (wb' := [k_Model g a o pasts length printed told state r5.2.1 r5.2.2 boxes frees bestFree bestTurned bestFirst bestSecond v spare past kept isKept text paper left top wide high original turn boxX boxY boxW boxH freeAtX freeAtY freeW freeH begins ends tried aside]) rfl b_e0 1 rfl (by decide) (st2 := [.int r5.1]) rfl (fun H locs hw => ?_)
        refine lv_if_ne (tgt := 35) hx hb dX11_record_26 (by decide) (fun hc26 => ?_) (fun hc26 => ?_)
        · rw [if_neg hc26] at h
          refine lv_iload_n hx hb dX11_record_35 rfl (lv_at hl 3 rfl) ?_
          obtain rfl := Option.some.inj h
          exact b_iret hQ hx hb hr hlk hw rfl dX11_record_36
        · rw [if_pos hc26] at h
          obtain ⟨x6, ex6, h⟩ := g_bd_nm h
          refine lv_iinc (v := x6) (lv' := [(3, .int x6), (0, .ref (a o)), (1, .int i1), (2, .int i2)]) hx hb dX11_record_29 hl (k := 3) rfl (by rw [ex6]; rfl) (by decide) rfl (fun ls hl => ?_)
          refine lv_goto (tgt := 2) hx hb dX11_record_32 (by decide) ?_
          exact ih2 x6 r5.2.1 r5.2.2 _ _ _ hw (lv_sub hl [1, 2, 3, 0] rfl) h
  exact hL2 g_fuel (0 : Int32) backX backY _ _ _ hw (lv_sub hl [1, 2, 3, 0] rfl) h
set_option maxRecDepth 100000 in
set_option maxHeartbeats 4000000 in
theorem c_X11_recordOf (l : Launch) (D : va_G) (g : Nat → ClassId) (a : Nat → Nat) (o : Nat) (pasts : Int32) (length : Int32) (printed : Int32) (told : Int32) (state : Int64) (backX : Int32) (backY : Int32) (boxes : Int32) (frees : Int32) (bestFree : Int32) (bestTurned : Int32) (bestFirst : Int32) (bestSecond : Int32) (v : (Nat → Int32)) (spare : (Nat → Int32)) (past : (Nat → Int32)) (kept : (Nat → Int32)) (isKept : (Nat → Int32)) (text : (Nat → Int32)) (paper : (Nat → Int32)) (left : (Nat → Int32)) (top : (Nat → Int32)) (wide : (Nat → Int32)) (high : (Nat → Int32)) (original : (Nat → Int32)) (turn : (Nat → Int32)) (boxX : (Nat → Int32)) (boxY : (Nat → Int32)) (boxW : (Nat → Int32)) (boxH : (Nat → Int32)) (freeAtX : (Nat → Int32)) (freeAtY : (Nat → Int32)) (freeW : (Nat → Int32)) (freeH : (Nat → Int32)) (begins : (Nat → Int32)) (ends : (Nat → Int32)) (tried : (Nat → Int32)) (aside : (Nat → Int32)) (i1 : Int32) (u : Int32 × Int32 × Int32 × (Nat → Int32) × (Nat → Int32) × (Nat → Int32) × (Nat → Int32) × (Nat → Int32) × (Nat → Int32)) (h : f_X11_recordOf backX backY v left top wide high original turn i1 = some u) : b_Ct l yX11_recordOf cX11_recordOf 3 (some .int) 6 147 D g [.ref (a o), .int i1] [k_Model g a o pasts length printed told state backX backY boxes frees bestFree bestTurned bestFirst bestSecond v spare past kept isKept text paper left top wide high original turn boxX boxY boxW boxH freeAtX freeAtY freeW freeH begins ends tried aside] [k_Model g a o pasts length printed told state u.2.1 u.2.2.1 boxes frees bestFree bestTurned bestFirst bestSecond v spare past kept isKept text paper u.2.2.2.1 u.2.2.2.2.1 u.2.2.2.2.2.1 u.2.2.2.2.2.2.1 u.2.2.2.2.2.2.2.1 u.2.2.2.2.2.2.2.2 boxX boxY boxW boxH freeAtX freeAtY freeW freeH begins ends tried aside] (some (.int u.1)) := by
  refine b_start RX11 (by decide) rfl (Nat.le_of_ble_eq_true rfl) rfl ?_
  intro p e s m args below meth c A ls Q hQ hx hb hr hlk hml hown hT hK hA hw hl
  have hl : lv_has ls 3 [(0, .ref (a o)), (1, .int i1)] := hl
  unfold f_X11_recordOf at h
  refine lv_aload_n hx hb dX11_recordOf_0 rfl (lv_at hl 0 rfl) ?_
  refine lv_iload_n hx hb dX11_recordOf_1 rfl (lv_at hl 1 rfl) ?_
  obtain ⟨r1, er1, h⟩ := g_cl_some h
  refine b_callV hx hb hml hown hT hK hA hw mk_X11_138 (c_X11_isSprite l D g a o pasts length printed told state backX backY boxes frees bestFree bestTurned bestFirst bestSecond v spare past kept isKept text paper left top wide high original turn boxX boxY boxW boxH freeAtX freeAtY freeW freeH begins ends tried aside i1 r1 er1) [0] [] rfl (by decide) 0 0 rfl rfl rfl rfl hl.1 [] rfl (Nat.le_of_ble_eq_true rfl) ⟨Nat.le_of_ble_eq_true rfl, Nat.le_of_ble_eq_true rfl⟩ ⟨Nat.zero_le _, Nat.zero_le _⟩ dX11_recordOf_2 (wb' := [k_Model g a o pasts length printed told state backX backY boxes frees bestFree bestTurned bestFirst bestSecond v spare past kept isKept text paper left top wide high original turn boxX boxY boxW boxH freeAtX freeAtY freeW freeH begins ends tried aside]) rfl b_e0 1 rfl (by decide) (st2 := [.int r1]) rfl (fun H locs hw => ?_)
  obtain ⟨j18_10, ej18_10, h⟩ := g_jn_nm h
  have hj18_10 : ∀ (x2 : Int32) (x3 : Int32) (x4 : Int32) (f5 : Nat → Int32) (f6 : Nat → Int32) (f7 : Nat → Int32) (f8 : Nat → Int32) (f9 : Nat → Int32) (f10 : Nat → Int32) (H : Heap) (locs : List Loc) (ls : Array Slot), b_Wd D A s.heap H locs [k_Model g a o pasts length printed told state x3 x4 boxes frees bestFree bestTurned bestFirst bestSecond v spare past kept isKept text paper f5 f6 f7 f8 f9 f10 boxX boxY boxW boxH freeAtX freeAtY freeW freeH begins ends tried aside] → lv_has ls 3 [(0, .ref (a o)), (1, .int i1)] → j18_10 x2 x3 x4 f5 f6 f7 f8 f9 f10 = some u → W p l e (g_rm 6 147) s m args below meth c H locs 0 0 Q (F0 m 18 ls [.int x2]) := by
    intro x2 x3 x4 f5 f6 f7 f8 f9 f10 H locs ls hw hl h
    subst ej18_10
    dsimp only at h
    refine lv_istore_n (lv' := [(2, .int x2), (0, .ref (a o)), (1, .int i1)]) hx hb dX11_recordOf_18 rfl hl (by decide) rfl (fun ls hl => ?_)
    refine lv_iload_n hx hb dX11_recordOf_19 rfl (lv_at hl 0 rfl) ?_
    refine lv_bipush (v := -2) hx hb dX11_recordOf_20 (by decide) ?_
    refine lv_icmp_ne (tgt := 29) hx hb dX11_recordOf_22 (by decide) (fun hc22 => ?_) (fun hc22 => ?_)
    · rw [if_neg hc22] at h
      refine lv_iload_n hx hb dX11_recordOf_29 rfl (lv_at hl 0 rfl) ?_
      refine lv_if_ge (tgt := 38) hx hb dX11_recordOf_30 (by decide) (fun hc30 => ?_) (fun hc30 => ?_)
      · rw [if_pos hc30] at h
        refine lv_aload_n hx hb dX11_recordOf_38 rfl (lv_at hl 1 rfl) ?_
        refine lv_iload_n hx hb dX11_recordOf_39 rfl (lv_at hl 2 rfl) ?_
        refine lv_iload_n hx hb dX11_recordOf_40 rfl (lv_at hl 0 rfl) ?_
        obtain ⟨r12, er12, h⟩ := g_cl_some h
        refine b_callV hx hb hml hown hT hK hA hw mk_X11_279 (c_X11_record l D g a o pasts length printed told state x3 x4 boxes frees bestFree bestTurned bestFirst bestSecond v spare past kept isKept text paper f5 f6 f7 f8 f9 f10 boxX boxY boxW boxH freeAtX freeAtY freeW freeH begins ends tried aside i1 x2 r12 er12) [0] [] rfl (by decide) 0 0 rfl rfl rfl rfl hl.1 [] rfl (Nat.le_of_ble_eq_true rfl) ⟨Nat.le_of_ble_eq_true rfl, Nat.le_of_ble_eq_true rfl⟩ ⟨Nat.zero_le _, Nat.zero_le _⟩ dX11_recordOf_41 (wb' := [k_Model g a o pasts length printed told state r12.2.1 r12.2.2 boxes frees bestFree bestTurned bestFirst bestSecond v spare past kept isKept text paper f5 f6 f7 f8 f9 f10 boxX boxY boxW boxH freeAtX freeAtY freeW freeH begins ends tried aside]) rfl b_e0 1 rfl (by decide) (st2 := [.int r12.1]) rfl (fun H locs hw => ?_)
        obtain rfl := Option.some.inj h
        exact b_iret hQ hx hb hr hlk hw rfl dX11_recordOf_44
      · rw [if_neg hc30] at h
        refine lv_bipush (v := -4) hx hb dX11_recordOf_33 (by decide) ?_
        refine lv_goto (tgt := 44) hx hb dX11_recordOf_35 (by decide) ?_
        obtain rfl := Option.some.inj h
        exact b_iret hQ hx hb hr hlk hw rfl dX11_recordOf_44
    · rw [if_pos hc22] at h
      refine lv_iconst (v := -1) hx hb dX11_recordOf_25 (by decide) ?_
      refine lv_goto (tgt := 44) hx hb dX11_recordOf_26 (by decide) ?_
      obtain rfl := Option.some.inj h
      exact b_iret hQ hx hb hr hlk hw rfl dX11_recordOf_44
  refine lv_if_eq (tgt := 16) hx hb dX11_recordOf_5 (by decide) (fun hc5 => ?_) (fun hc5 => ?_)
  · rw [if_pos hc5] at h
    refine lv_bipush (v := -2) hx hb dX11_recordOf_16 (by decide) ?_
    exact hj18_10 (-2 : Int32) backX backY left top wide high original turn _ _ _ hw (lv_sub hl [0, 1] rfl) h
  · rw [if_neg hc5] at h
    refine lv_aload_n hx hb dX11_recordOf_8 rfl (lv_at hl 0 rfl) ?_
    refine lv_iload_n hx hb dX11_recordOf_9 rfl (lv_at hl 1 rfl) ?_
    obtain ⟨r13, er13, h⟩ := g_cl_some h
    refine b_callV hx hb hml hown hT hK hA hw mk_X11_270 (c_X11_holder l D g a o pasts length printed told state backX backY boxes frees bestFree bestTurned bestFirst bestSecond v spare past kept isKept text paper left top wide high original turn boxX boxY boxW boxH freeAtX freeAtY freeW freeH begins ends tried aside i1 r13 er13) [0] [] rfl (by decide) 0 0 rfl rfl rfl rfl hl.1 [] rfl (Nat.le_of_ble_eq_true rfl) ⟨Nat.le_of_ble_eq_true rfl, Nat.le_of_ble_eq_true rfl⟩ ⟨Nat.zero_le _, Nat.zero_le _⟩ dX11_recordOf_10 (wb' := [k_Model g a o pasts length printed told state r13.2.1 r13.2.2.1 boxes frees bestFree bestTurned bestFirst bestSecond v spare past kept isKept text paper r13.2.2.2.1 r13.2.2.2.2.1 r13.2.2.2.2.2.1 r13.2.2.2.2.2.2.1 r13.2.2.2.2.2.2.2.1 r13.2.2.2.2.2.2.2.2 boxX boxY boxW boxH freeAtX freeAtY freeW freeH begins ends tried aside]) rfl b_e0 1 rfl (by decide) (st2 := [.int r13.1]) rfl (fun H locs hw => ?_)
    refine lv_goto (tgt := 18) hx hb dX11_recordOf_13 (by decide) ?_
    exact hj18_10 r13.1 r13.2.1 r13.2.2.1 r13.2.2.2.1 r13.2.2.2.2.1 r13.2.2.2.2.2.1 r13.2.2.2.2.2.2.1 r13.2.2.2.2.2.2.2.1 r13.2.2.2.2.2.2.2.2 _ _ _ hw (lv_sub hl [0, 1] rfl) h
set_option maxRecDepth 100000 in
set_option maxHeartbeats 4000000 in
theorem c_X11_pages (l : Launch) (D : va_G) (g : Nat → ClassId) (a : Nat → Nat) (o : Nat) (pasts : Int32) (length : Int32) (printed : Int32) (told : Int32) (state : Int64) (backX : Int32) (backY : Int32) (boxes : Int32) (frees : Int32) (bestFree : Int32) (bestTurned : Int32) (bestFirst : Int32) (bestSecond : Int32) (v : (Nat → Int32)) (spare : (Nat → Int32)) (past : (Nat → Int32)) (kept : (Nat → Int32)) (isKept : (Nat → Int32)) (text : (Nat → Int32)) (paper : (Nat → Int32)) (left : (Nat → Int32)) (top : (Nat → Int32)) (wide : (Nat → Int32)) (high : (Nat → Int32)) (original : (Nat → Int32)) (turn : (Nat → Int32)) (boxX : (Nat → Int32)) (boxY : (Nat → Int32)) (boxW : (Nat → Int32)) (boxH : (Nat → Int32)) (freeAtX : (Nat → Int32)) (freeAtY : (Nat → Int32)) (freeW : (Nat → Int32)) (freeH : (Nat → Int32)) (begins : (Nat → Int32)) (ends : (Nat → Int32)) (tried : (Nat → Int32)) (aside : (Nat → Int32)) (u : Int32) (h : f_X11_pages v = some u) : b_Ct l yX11_pages cX11_pages 1 (some .int) 0 0 D g [.ref (a o)] [k_Model g a o pasts length printed told state backX backY boxes frees bestFree bestTurned bestFirst bestSecond v spare past kept isKept text paper left top wide high original turn boxX boxY boxW boxH freeAtX freeAtY freeW freeH begins ends tried aside] [k_Model g a o pasts length printed told state backX backY boxes frees bestFree bestTurned bestFirst bestSecond v spare past kept isKept text paper left top wide high original turn boxX boxY boxW boxH freeAtX freeAtY freeW freeH begins ends tried aside] (some (.int u)) := by
  refine b_start RX11 (by decide) rfl (Nat.le_of_ble_eq_true rfl) rfl ?_
  intro p e s m args below meth c A ls Q hQ hx hb hr hlk hml hown hT hK hA hw hl
  have hl : lv_has ls 1 [(0, .ref (a o))] := hl
  unfold f_X11_pages at h
  refine lv_aload_n hx hb dX11_pages_0 rfl (lv_at hl 0 rfl) ?_
  refine b_get hx hb hT hK hown fl_X11_7 hw 0 0 rfl rfl (v := .ref (a (o+1))) rfl dX11_pages_1 ?_
  refine lv_bipush (v := 13) hx hb dX11_pages_4 (by decide) ?_
  obtain ⟨x1, ex1, hix1, h⟩ := g_rd_some h
  refine b_iald hx hb hK hw 0 1 rfl (f := v) rfl hix1 ex1 dX11_pages_6 ?_
  obtain rfl := Option.some.inj h
  exact b_iret hQ hx hb hr hlk hw rfl dX11_pages_7
set_option maxRecDepth 100000 in
set_option maxHeartbeats 4000000 in
theorem c_X11_isPage (l : Launch) (D : va_G) (g : Nat → ClassId) (a : Nat → Nat) (o : Nat) (pasts : Int32) (length : Int32) (printed : Int32) (told : Int32) (state : Int64) (backX : Int32) (backY : Int32) (boxes : Int32) (frees : Int32) (bestFree : Int32) (bestTurned : Int32) (bestFirst : Int32) (bestSecond : Int32) (v : (Nat → Int32)) (spare : (Nat → Int32)) (past : (Nat → Int32)) (kept : (Nat → Int32)) (isKept : (Nat → Int32)) (text : (Nat → Int32)) (paper : (Nat → Int32)) (left : (Nat → Int32)) (top : (Nat → Int32)) (wide : (Nat → Int32)) (high : (Nat → Int32)) (original : (Nat → Int32)) (turn : (Nat → Int32)) (boxX : (Nat → Int32)) (boxY : (Nat → Int32)) (boxW : (Nat → Int32)) (boxH : (Nat → Int32)) (freeAtX : (Nat → Int32)) (freeAtY : (Nat → Int32)) (freeW : (Nat → Int32)) (freeH : (Nat → Int32)) (begins : (Nat → Int32)) (ends : (Nat → Int32)) (tried : (Nat → Int32)) (aside : (Nat → Int32)) (i1 : Int32) (u : Int32) (h : f_X11_isPage v i1 = some u) : b_Ct l yX11_isPage cX11_isPage 2 (some .boolean) 1 22 D g [.ref (a o), .int i1] [k_Model g a o pasts length printed told state backX backY boxes frees bestFree bestTurned bestFirst bestSecond v spare past kept isKept text paper left top wide high original turn boxX boxY boxW boxH freeAtX freeAtY freeW freeH begins ends tried aside] [k_Model g a o pasts length printed told state backX backY boxes frees bestFree bestTurned bestFirst bestSecond v spare past kept isKept text paper left top wide high original turn boxX boxY boxW boxH freeAtX freeAtY freeW freeH begins ends tried aside] (some (.int u)) := by
  refine b_start RX11 (by decide) rfl (Nat.le_of_ble_eq_true rfl) rfl ?_
  intro p e s m args below meth c A ls Q hQ hx hb hr hlk hml hown hT hK hA hw hl
  have hl : lv_has ls 2 [(0, .ref (a o)), (1, .int i1)] := hl
  unfold f_X11_isPage at h
  refine lv_iload_n hx hb dX11_isPage_0 rfl (lv_at hl 1 rfl) ?_
  refine lv_iconst (v := 0) hx hb dX11_isPage_1 (by decide) ?_
  refine lv_aload_n hx hb dX11_isPage_2 rfl (lv_at hl 0 rfl) ?_
  refine b_get hx hb hT hK hown fl_X11_7 hw 0 0 rfl rfl (v := .ref (a (o+1))) rfl dX11_isPage_3 ?_
  refine lv_bipush (v := 13) hx hb dX11_isPage_6 (by decide) ?_
  obtain ⟨x1, ex1, hix1, h⟩ := g_rd_some h
  refine b_iald hx hb hK hw 0 1 rfl (f := v) rfl hix1 ex1 dX11_isPage_8 ?_
  refine lv_iconst (v := 1) hx hb dX11_isPage_9 (by decide) ?_
  refine lv_isub hx hb dX11_isPage_10 ?_
  refine b_callS hx hb hml hown hT hK hA hw mk_X11_86 (c_X11_in l D g i1 (0 : Int32) (x1 - (1 : Int32))) [] [0] rfl (by decide) rfl hl.1 [] rfl (Nat.le_of_ble_eq_true rfl) ⟨Nat.le_of_ble_eq_true rfl, Nat.le_of_ble_eq_true rfl⟩ ⟨Nat.zero_le _, Nat.zero_le _⟩ dX11_isPage_11 (wb' := [k_Model g a o pasts length printed told state backX backY boxes frees bestFree bestTurned bestFirst bestSecond v spare past kept isKept text paper left top wide high original turn boxX boxY boxW boxH freeAtX freeAtY freeW freeH begins ends tried aside]) rfl (b_e1 rfl b_e0) 1 rfl (by decide) (st2 := [.int (f_X11_in i1 (0 : Int32) (x1 - (1 : Int32)))]) rfl (fun H locs hw => ?_)
  obtain ⟨x2, ex2, h⟩ := g_bd_nm h
  refine g_topi ex2 ?_
  obtain ⟨z3, h⟩ := g_z_some h
  obtain rfl := Option.some.inj h
  exact b_zret hQ hx hb hr hlk z3 hw rfl dX11_isPage_14
