set_option maxRecDepth 100000 in
set_option maxHeartbeats 4000000 in
theorem c_X11_trimTop (l : Launch) (D : va_G) (g : Nat → ClassId) (a : Nat → Nat) (o : Nat) (pasts : Int32) (length : Int32) (printed : Int32) (told : Int32) (state : Int64) (backX : Int32) (backY : Int32) (boxes : Int32) (frees : Int32) (bestFree : Int32) (bestTurned : Int32) (bestFirst : Int32) (bestSecond : Int32) (v : (Nat → Int32)) (spare : (Nat → Int32)) (past : (Nat → Int32)) (kept : (Nat → Int32)) (isKept : (Nat → Int32)) (text : (Nat → Int32)) (paper : (Nat → Int32)) (left : (Nat → Int32)) (top : (Nat → Int32)) (wide : (Nat → Int32)) (high : (Nat → Int32)) (original : (Nat → Int32)) (turn : (Nat → Int32)) (boxX : (Nat → Int32)) (boxY : (Nat → Int32)) (boxW : (Nat → Int32)) (boxH : (Nat → Int32)) (freeAtX : (Nat → Int32)) (freeAtY : (Nat → Int32)) (freeW : (Nat → Int32)) (freeH : (Nat → Int32)) (begins : (Nat → Int32)) (ends : (Nat → Int32)) (tried : (Nat → Int32)) (aside : (Nat → Int32)) (i1 : Int32) (u : Int32 × Int32 × Int32 × (Nat → Int32) × (Nat → Int32) × (Nat → Int32) × (Nat → Int32) × (Nat → Int32) × (Nat → Int32)) (h : f_X11_trimTop backX backY v left top wide high original turn i1 = some u) : b_Ct l yX11_trimTop cX11_trimTop 2 (some .int) 5 125 D g [.ref (a o), .int i1] [k_Model g a o pasts length printed told state backX backY boxes frees bestFree bestTurned bestFirst bestSecond v spare past kept isKept text paper left top wide high original turn boxX boxY boxW boxH freeAtX freeAtY freeW freeH begins ends tried aside] [k_Model g a o pasts length printed told state u.2.1 u.2.2.1 boxes frees bestFree bestTurned bestFirst bestSecond v spare past kept isKept text paper u.2.2.2.1 u.2.2.2.2.1 u.2.2.2.2.2.1 u.2.2.2.2.2.2.1 u.2.2.2.2.2.2.2.1 u.2.2.2.2.2.2.2.2 boxX boxY boxW boxH freeAtX freeAtY freeW freeH begins ends tried aside] (some (.int u.1)) := by
  refine b_start RX11 (by decide) rfl (Nat.le_of_ble_eq_true rfl) rfl ?_
  intro p e s m args below meth c A ls Q hQ hx hb hr hlk hml hown hT hK hA hw hl
  have hl : lv_has ls 2 [(0, .ref (a o)), (1, .int i1)] := hl
  unfold f_X11_trimTop at h
  refine lv_aload_n hx hb dX11_trimTop_0 rfl (lv_at hl 0 rfl) ?_
  refine lv_iload_n hx hb dX11_trimTop_1 rfl (lv_at hl 1 rfl) ?_
  obtain ⟨r1, er1, h⟩ := g_cl_some h
  refine b_callV hx hb hml hown hT hK hA hw mk_X11_138 (c_X11_isSprite l D g a o pasts length printed told state backX backY boxes frees bestFree bestTurned bestFirst bestSecond v spare past kept isKept text paper left top wide high original turn boxX boxY boxW boxH freeAtX freeAtY freeW freeH begins ends tried aside i1 r1 er1) [0] [] rfl (by decide) 0 0 rfl rfl rfl rfl hl.1 [] rfl (Nat.le_of_ble_eq_true rfl) ⟨Nat.le_of_ble_eq_true rfl, Nat.le_of_ble_eq_true rfl⟩ ⟨Nat.zero_le _, Nat.zero_le _⟩ dX11_trimTop_2 (wb' := [k_Model g a o pasts length printed told state backX backY boxes frees bestFree bestTurned bestFirst bestSecond v spare past kept isKept text paper left top wide high original turn boxX boxY boxW boxH freeAtX freeAtY freeW freeH begins ends tried aside]) rfl b_e0 1 rfl (by decide) (st2 := [.int r1]) rfl (fun H locs hw => ?_)
  refine lv_if_ne (tgt := 10) hx hb dX11_trimTop_5 (by decide) (fun hc5 => ?_) (fun hc5 => ?_)
  · rw [if_neg hc5] at h
    refine lv_aload_n hx hb dX11_trimTop_10 rfl (lv_at hl 0 rfl) ?_
    obtain ⟨r2, er2, h⟩ := g_cl_some h
    refine b_callV hx hb hml hown hT hK hA hw mk_X11_176 (c_X11_knows l D g a o pasts length printed told state backX backY boxes frees bestFree bestTurned bestFirst bestSecond v spare past kept isKept text paper left top wide high original turn boxX boxY boxW boxH freeAtX freeAtY freeW freeH begins ends tried aside r2 er2) [0] [] rfl (by decide) 0 0 rfl rfl rfl rfl hl.1 [] rfl (Nat.le_of_ble_eq_true rfl) ⟨Nat.le_of_ble_eq_true rfl, Nat.le_of_ble_eq_true rfl⟩ ⟨Nat.zero_le _, Nat.zero_le _⟩ dX11_trimTop_11 (wb' := [k_Model g a o pasts length printed told state r2.1 r2.2.1 boxes frees bestFree bestTurned bestFirst bestSecond v spare past kept isKept text paper r2.2.2.1 r2.2.2.2.1 r2.2.2.2.2.1 r2.2.2.2.2.2.1 r2.2.2.2.2.2.2.1 r2.2.2.2.2.2.2.2 boxX boxY boxW boxH freeAtX freeAtY freeW freeH begins ends tried aside]) rfl b_e0 1 rfl (by decide) (st2 := []) rfl (fun H locs hw => ?_)
    refine lv_aload_n hx hb dX11_trimTop_14 rfl (lv_at hl 0 rfl) ?_
    refine b_get hx hb hT hK hown fl_X11_38 hw 0 0 rfl rfl (v := .ref (a (o+10))) rfl dX11_trimTop_15 ?_
    refine lv_iload_n hx hb dX11_trimTop_18 rfl (lv_at hl 1 rfl) ?_
    obtain ⟨x3, ex3, hix3, h⟩ := g_rd_some h
    refine b_iald hx hb hK hw 0 10 rfl (f := r2.2.2.2.2.1) rfl hix3 ex3 dX11_trimTop_19 ?_
    refine lv_if_ne (tgt := 28) hx hb dX11_trimTop_20 (by decide) (fun hc20 => ?_) (fun hc20 => ?_)
    · rw [if_neg hc20] at h
      refine lv_aload_n hx hb dX11_trimTop_28 rfl (lv_at hl 0 rfl) ?_
      refine b_get hx hb hT hK hown fl_X11_35 hw 0 0 rfl rfl (v := .ref (a (o+9))) rfl dX11_trimTop_29 ?_
      refine lv_iload_n hx hb dX11_trimTop_32 rfl (lv_at hl 1 rfl) ?_
      obtain ⟨x4, ex4, hix4, h⟩ := g_rd_some h
      refine b_iald hx hb hK hw 0 9 rfl (f := r2.2.2.2.1) rfl hix4 ex4 dX11_trimTop_33 ?_
      obtain rfl := Option.some.inj h
      exact b_iret hQ hx hb hr hlk hw rfl dX11_trimTop_34
    · rw [if_pos hc20] at h
      refine lv_bipush (v := -4) hx hb dX11_trimTop_23 (by decide) ?_
      refine lv_goto (tgt := 34) hx hb dX11_trimTop_25 (by decide) ?_
      obtain rfl := Option.some.inj h
      exact b_iret hQ hx hb hr hlk hw rfl dX11_trimTop_34
  · rw [if_pos hc5] at h
    refine lv_iconst (v := -1) hx hb dX11_trimTop_8 (by decide) ?_
    obtain rfl := Option.some.inj h
    exact b_iret hQ hx hb hr hlk hw rfl dX11_trimTop_9
set_option maxRecDepth 100000 in
set_option maxHeartbeats 4000000 in
theorem c_X11_trimWidth (l : Launch) (D : va_G) (g : Nat → ClassId) (a : Nat → Nat) (o : Nat) (pasts : Int32) (length : Int32) (printed : Int32) (told : Int32) (state : Int64) (backX : Int32) (backY : Int32) (boxes : Int32) (frees : Int32) (bestFree : Int32) (bestTurned : Int32) (bestFirst : Int32) (bestSecond : Int32) (v : (Nat → Int32)) (spare : (Nat → Int32)) (past : (Nat → Int32)) (kept : (Nat → Int32)) (isKept : (Nat → Int32)) (text : (Nat → Int32)) (paper : (Nat → Int32)) (left : (Nat → Int32)) (top : (Nat → Int32)) (wide : (Nat → Int32)) (high : (Nat → Int32)) (original : (Nat → Int32)) (turn : (Nat → Int32)) (boxX : (Nat → Int32)) (boxY : (Nat → Int32)) (boxW : (Nat → Int32)) (boxH : (Nat → Int32)) (freeAtX : (Nat → Int32)) (freeAtY : (Nat → Int32)) (freeW : (Nat → Int32)) (freeH : (Nat → Int32)) (begins : (Nat → Int32)) (ends : (Nat → Int32)) (tried : (Nat → Int32)) (aside : (Nat → Int32)) (i1 : Int32) (u : Int32 × Int32 × Int32 × (Nat → Int32) × (Nat → Int32) × (Nat → Int32) × (Nat → Int32) × (Nat → Int32) × (Nat → Int32)) (h : f_X11_trimWidth backX backY v left top wide high original turn i1 = some u) : b_Ct l yX11_trimWidth cX11_trimWidth 2 (some .int) 5 125 D g [.ref (a o), .int i1] [k_Model g a o pasts length printed told state backX backY boxes frees bestFree bestTurned bestFirst bestSecond v spare past kept isKept text paper left top wide high original turn boxX boxY boxW boxH freeAtX freeAtY freeW freeH begins ends tried aside] [k_Model g a o pasts length printed told state u.2.1 u.2.2.1 boxes frees bestFree bestTurned bestFirst bestSecond v spare past kept isKept text paper u.2.2.2.1 u.2.2.2.2.1 u.2.2.2.2.2.1 u.2.2.2.2.2.2.1 u.2.2.2.2.2.2.2.1 u.2.2.2.2.2.2.2.2 boxX boxY boxW boxH freeAtX freeAtY freeW freeH begins ends tried aside] (some (.int u.1)) := by
  refine b_start RX11 (by decide) rfl (Nat.le_of_ble_eq_true rfl) rfl ?_
  intro p e s m args below meth c A ls Q hQ hx hb hr hlk hml hown hT hK hA hw hl
  have hl : lv_has ls 2 [(0, .ref (a o)), (1, .int i1)] := hl
  unfold f_X11_trimWidth at h
  refine lv_aload_n hx hb dX11_trimWidth_0 rfl (lv_at hl 0 rfl) ?_
  refine lv_iload_n hx hb dX11_trimWidth_1 rfl (lv_at hl 1 rfl) ?_
  obtain ⟨r1, er1, h⟩ := g_cl_some h
  refine b_callV hx hb hml hown hT hK hA hw mk_X11_138 (c_X11_isSprite l D g a o pasts length printed told state backX backY boxes frees bestFree bestTurned bestFirst bestSecond v spare past kept isKept text paper left top wide high original turn boxX boxY boxW boxH freeAtX freeAtY freeW freeH begins ends tried aside i1 r1 er1) [0] [] rfl (by decide) 0 0 rfl rfl rfl rfl hl.1 [] rfl (Nat.le_of_ble_eq_true rfl) ⟨Nat.le_of_ble_eq_true rfl, Nat.le_of_ble_eq_true rfl⟩ ⟨Nat.zero_le _, Nat.zero_le _⟩ dX11_trimWidth_2 (wb' := [k_Model g a o pasts length printed told state backX backY boxes frees bestFree bestTurned bestFirst bestSecond v spare past kept isKept text paper left top wide high original turn boxX boxY boxW boxH freeAtX freeAtY freeW freeH begins ends tried aside]) rfl b_e0 1 rfl (by decide) (st2 := [.int r1]) rfl (fun H locs hw => ?_)
  refine lv_if_ne (tgt := 10) hx hb dX11_trimWidth_5 (by decide) (fun hc5 => ?_) (fun hc5 => ?_)
  · rw [if_neg hc5] at h
    refine lv_aload_n hx hb dX11_trimWidth_10 rfl (lv_at hl 0 rfl) ?_
    obtain ⟨r2, er2, h⟩ := g_cl_some h
    refine b_callV hx hb hml hown hT hK hA hw mk_X11_176 (c_X11_knows l D g a o pasts length printed told state backX backY boxes frees bestFree bestTurned bestFirst bestSecond v spare past kept isKept text paper left top wide high original turn boxX boxY boxW boxH freeAtX freeAtY freeW freeH begins ends tried aside r2 er2) [0] [] rfl (by decide) 0 0 rfl rfl rfl rfl hl.1 [] rfl (Nat.le_of_ble_eq_true rfl) ⟨Nat.le_of_ble_eq_true rfl, Nat.le_of_ble_eq_true rfl⟩ ⟨Nat.zero_le _, Nat.zero_le _⟩ dX11_trimWidth_11 (wb' := [k_Model g a o pasts length printed told state r2.1 r2.2.1 boxes frees bestFree bestTurned bestFirst bestSecond v spare past kept isKept text paper r2.2.2.1 r2.2.2.2.1 r2.2.2.2.2.1 r2.2.2.2.2.2.1 r2.2.2.2.2.2.2.1 r2.2.2.2.2.2.2.2 boxX boxY boxW boxH freeAtX freeAtY freeW freeH begins ends tried aside]) rfl b_e0 1 rfl (by decide) (st2 := []) rfl (fun H locs hw => ?_)
    refine lv_aload_n hx hb dX11_trimWidth_14 rfl (lv_at hl 0 rfl) ?_
    refine b_get hx hb hT hK hown fl_X11_38 hw 0 0 rfl rfl (v := .ref (a (o+10))) rfl dX11_trimWidth_15 ?_
    refine lv_iload_n hx hb dX11_trimWidth_18 rfl (lv_at hl 1 rfl) ?_
    obtain ⟨x3, ex3, hix3, h⟩ := g_rd_some h
    refine b_iald hx hb hK hw 0 10 rfl (f := r2.2.2.2.2.1) rfl hix3 ex3 dX11_trimWidth_19 ?_
    obtain rfl := Option.some.inj h
    exact b_iret hQ hx hb hr hlk hw rfl dX11_trimWidth_20
  · rw [if_pos hc5] at h
    refine lv_iconst (v := -1) hx hb dX11_trimWidth_8 (by decide) ?_
    obtain rfl := Option.some.inj h
    exact b_iret hQ hx hb hr hlk hw rfl dX11_trimWidth_9
set_option maxRecDepth 100000 in
set_option maxHeartbeats 4000000 in
theorem c_X11_trimHeight (l : Launch) (D : va_G) (g : Nat → ClassId) (a : Nat → Nat) (o : Nat) (pasts : Int32) (length : Int32) (printed : Int32) (told : Int32) (state : Int64) (backX : Int32) (backY : Int32) (boxes : Int32) (frees : Int32) (bestFree : Int32) (bestTurned : Int32) (bestFirst : Int32) (bestSecond : Int32) (v : (Nat → Int32)) (spare : (Nat → Int32)) (past : (Nat → Int32)) (kept : (Nat → Int32)) (isKept : (Nat → Int32)) (text : (Nat → Int32)) (paper : (Nat → Int32)) (left : (Nat → Int32)) (top : (Nat → Int32)) (wide : (Nat → Int32)) (high : (Nat → Int32)) (original : (Nat → Int32)) (turn : (Nat → Int32)) (boxX : (Nat → Int32)) (boxY : (Nat → Int32)) (boxW : (Nat → Int32)) (boxH : (Nat → Int32)) (freeAtX : (Nat → Int32)) (freeAtY : (Nat → Int32)) (freeW : (Nat → Int32)) (freeH : (Nat → Int32)) (begins : (Nat → Int32)) (ends : (Nat → Int32)) (tried : (Nat → Int32)) (aside : (Nat → Int32)) (i1 : Int32) (u : Int32 × Int32 × Int32 × (Nat → Int32) × (Nat → Int32) × (Nat → Int32) × (Nat → Int32) × (Nat → Int32) × (Nat → Int32)) (h : f_X11_trimHeight backX backY v left top wide high original turn i1 = some u) : b_Ct l yX11_trimHeight cX11_trimHeight 2 (some .int) 5 125 D g [.ref (a o), .int i1] [k_Model g a o pasts length printed told state backX backY boxes frees bestFree bestTurned bestFirst bestSecond v spare past kept isKept text paper left top wide high original turn boxX boxY boxW boxH freeAtX freeAtY freeW freeH begins ends tried aside] [k_Model g a o pasts length printed told state u.2.1 u.2.2.1 boxes frees bestFree bestTurned bestFirst bestSecond v spare past kept isKept text paper u.2.2.2.1 u.2.2.2.2.1 u.2.2.2.2.2.1 u.2.2.2.2.2.2.1 u.2.2.2.2.2.2.2.1 u.2.2.2.2.2.2.2.2 boxX boxY boxW boxH freeAtX freeAtY freeW freeH begins ends tried aside] (some (.int u.1)) := by
  refine b_start RX11 (by decide) rfl (Nat.le_of_ble_eq_true rfl) rfl ?_
  intro p e s m args below meth c A ls Q hQ hx hb hr hlk hml hown hT hK hA hw hl
  have hl : lv_has ls 2 [(0, .ref (a o)), (1, .int i1)] := hl
  unfold f_X11_trimHeight at h
  refine lv_aload_n hx hb dX11_trimHeight_0 rfl (lv_at hl 0 rfl) ?_
  refine lv_iload_n hx hb dX11_trimHeight_1 rfl (lv_at hl 1 rfl) ?_
  obtain ⟨r1, er1, h⟩ := g_cl_some h
  refine b_callV hx hb hml hown hT hK hA hw mk_X11_138 (c_X11_isSprite l D g a o pasts length printed told state backX backY boxes frees bestFree bestTurned bestFirst bestSecond v spare past kept isKept text paper left top wide high original turn boxX boxY boxW boxH freeAtX freeAtY freeW freeH begins ends tried aside i1 r1 er1) [0] [] rfl (by decide) 0 0 rfl rfl rfl rfl hl.1 [] rfl (Nat.le_of_ble_eq_true rfl) ⟨Nat.le_of_ble_eq_true rfl, Nat.le_of_ble_eq_true rfl⟩ ⟨Nat.zero_le _, Nat.zero_le _⟩ dX11_trimHeight_2 (wb' := [k_Model g a o pasts length printed told state backX backY boxes frees bestFree bestTurned bestFirst bestSecond v spare past kept isKept text paper left top wide high original turn boxX boxY boxW boxH freeAtX freeAtY freeW freeH begins ends tried aside]) rfl b_e0 1 rfl (by decide) (st2 := [.int r1]) rfl (fun H locs hw => ?_)
  refine lv_if_ne (tgt := 10) hx hb dX11_trimHeight_5 (by decide) (fun hc5 => ?_) (fun hc5 => ?_)
  · rw [if_neg hc5] at h
    refine lv_aload_n hx hb dX11_trimHeight_10 rfl (lv_at hl 0 rfl) ?_
    obtain ⟨r2, er2, h⟩ := g_cl_some h
    refine b_callV hx hb hml hown hT hK hA hw mk_X11_176 (c_X11_knows l D g a o pasts length printed told state backX backY boxes frees bestFree bestTurned bestFirst bestSecond v spare past kept isKept text paper left top wide high original turn boxX boxY boxW boxH freeAtX freeAtY freeW freeH begins ends tried aside r2 er2) [0] [] rfl (by decide) 0 0 rfl rfl rfl rfl hl.1 [] rfl (Nat.le_of_ble_eq_true rfl) ⟨Nat.le_of_ble_eq_true rfl, Nat.le_of_ble_eq_true rfl⟩ ⟨Nat.zero_le _, Nat.zero_le _⟩ dX11_trimHeight_11 (wb' := [k_Model g a o pasts length printed told state r2.1 r2.2.1 boxes frees bestFree bestTurned bestFirst bestSecond v spare past kept isKept text paper r2.2.2.1 r2.2.2.2.1 r2.2.2.2.2.1 r2.2.2.2.2.2.1 r2.2.2.2.2.2.2.1 r2.2.2.2.2.2.2.2 boxX boxY boxW boxH freeAtX freeAtY freeW freeH begins ends tried aside]) rfl b_e0 1 rfl (by decide) (st2 := []) rfl (fun H locs hw => ?_)
    refine lv_aload_n hx hb dX11_trimHeight_14 rfl (lv_at hl 0 rfl) ?_
    refine b_get hx hb hT hK hown fl_X11_41 hw 0 0 rfl rfl (v := .ref (a (o+11))) rfl dX11_trimHeight_15 ?_
    refine lv_iload_n hx hb dX11_trimHeight_18 rfl (lv_at hl 1 rfl) ?_
    obtain ⟨x3, ex3, hix3, h⟩ := g_rd_some h
    refine b_iald hx hb hK hw 0 11 rfl (f := r2.2.2.2.2.2.1) rfl hix3 ex3 dX11_trimHeight_19 ?_
    obtain rfl := Option.some.inj h
    exact b_iret hQ hx hb hr hlk hw rfl dX11_trimHeight_20
  · rw [if_pos hc5] at h
    refine lv_iconst (v := -1) hx hb dX11_trimHeight_8 (by decide) ?_
    obtain rfl := Option.some.inj h
    exact b_iret hQ hx hb hr hlk hw rfl dX11_trimHeight_9
set_option maxRecDepth 100000 in
set_option maxHeartbeats 4000000 in
theorem c_X11_originalOf (l : Launch) (D : va_G) (g : Nat → ClassId) (a : Nat → Nat) (o : Nat) (pasts : Int32) (length : Int32) (printed : Int32) (told : Int32) (state : Int64) (backX : Int32) (backY : Int32) (boxes : Int32) (frees : Int32) (bestFree : Int32) (bestTurned : Int32) (bestFirst : Int32) (bestSecond : Int32) (v : (Nat → Int32)) (spare : (Nat → Int32)) (past : (Nat → Int32)) (kept : (Nat → Int32)) (isKept : (Nat → Int32)) (text : (Nat → Int32)) (paper : (Nat → Int32)) (left : (Nat → Int32)) (top : (Nat → Int32)) (wide : (Nat → Int32)) (high : (Nat → Int32)) (original : (Nat → Int32)) (turn : (Nat → Int32)) (boxX : (Nat → Int32)) (boxY : (Nat → Int32)) (boxW : (Nat → Int32)) (boxH : (Nat → Int32)) (freeAtX : (Nat → Int32)) (freeAtY : (Nat → Int32)) (freeW : (Nat → Int32)) (freeH : (Nat → Int32)) (begins : (Nat → Int32)) (ends : (Nat → Int32)) (tried : (Nat → Int32)) (aside : (Nat → Int32)) (i1 : Int32) (u : Int32 × Int32 × Int32 × (Nat → Int32) × (Nat → Int32) × (Nat → Int32) × (Nat → Int32) × (Nat → Int32) × (Nat → Int32)) (h : f_X11_originalOf backX backY v left top wide high original turn i1 = some u) : b_Ct l yX11_originalOf cX11_originalOf 2 (some .int) 5 125 D g [.ref (a o), .int i1] [k_Model g a o pasts length printed told state backX backY boxes frees bestFree bestTurned bestFirst bestSecond v spare past kept isKept text paper left top wide high original turn boxX boxY boxW boxH freeAtX freeAtY freeW freeH begins ends tried aside] [k_Model g a o pasts length printed told state u.2.1 u.2.2.1 boxes frees bestFree bestTurned bestFirst bestSecond v spare past kept isKept text paper u.2.2.2.1 u.2.2.2.2.1 u.2.2.2.2.2.1 u.2.2.2.2.2.2.1 u.2.2.2.2.2.2.2.1 u.2.2.2.2.2.2.2.2 boxX boxY boxW boxH freeAtX freeAtY freeW freeH begins ends tried aside] (some (.int u.1)) := by
  refine b_start RX11 (by decide) rfl (Nat.le_of_ble_eq_true rfl) rfl ?_
  intro p e s m args below meth c A ls Q hQ hx hb hr hlk hml hown hT hK hA hw hl
  have hl : lv_has ls 2 [(0, .ref (a o)), (1, .int i1)] := hl
  unfold f_X11_originalOf at h
  refine lv_aload_n hx hb dX11_originalOf_0 rfl (lv_at hl 0 rfl) ?_
  refine lv_iload_n hx hb dX11_originalOf_1 rfl (lv_at hl 1 rfl) ?_
  obtain ⟨r1, er1, h⟩ := g_cl_some h
  refine b_callV hx hb hml hown hT hK hA hw mk_X11_138 (c_X11_isSprite l D g a o pasts length printed told state backX backY boxes frees bestFree bestTurned bestFirst bestSecond v spare past kept isKept text paper left top wide high original turn boxX boxY boxW boxH freeAtX freeAtY freeW freeH begins ends tried aside i1 r1 er1) [0] [] rfl (by decide) 0 0 rfl rfl rfl rfl hl.1 [] rfl (Nat.le_of_ble_eq_true rfl) ⟨Nat.le_of_ble_eq_true rfl, Nat.le_of_ble_eq_true rfl⟩ ⟨Nat.zero_le _, Nat.zero_le _⟩ dX11_originalOf_2 (wb' := [k_Model g a o pasts length printed told state backX backY boxes frees bestFree bestTurned bestFirst bestSecond v spare past kept isKept text paper left top wide high original turn boxX boxY boxW boxH freeAtX freeAtY freeW freeH begins ends tried aside]) rfl b_e0 1 rfl (by decide) (st2 := [.int r1]) rfl (fun H locs hw => ?_)
  refine lv_if_ne (tgt := 10) hx hb dX11_originalOf_5 (by decide) (fun hc5 => ?_) (fun hc5 => ?_)
  · rw [if_neg hc5] at h
    refine lv_aload_n hx hb dX11_originalOf_10 rfl (lv_at hl 0 rfl) ?_
    obtain ⟨r2, er2, h⟩ := g_cl_some h
    refine b_callV hx hb hml hown hT hK hA hw mk_X11_176 (c_X11_knows l D g a o pasts length printed told state backX backY boxes frees bestFree bestTurned bestFirst bestSecond v spare past kept isKept text paper left top wide high original turn boxX boxY boxW boxH freeAtX freeAtY freeW freeH begins ends tried aside r2 er2) [0] [] rfl (by decide) 0 0 rfl rfl rfl rfl hl.1 [] rfl (Nat.le_of_ble_eq_true rfl) ⟨Nat.le_of_ble_eq_true rfl, Nat.le_of_ble_eq_true rfl⟩ ⟨Nat.zero_le _, Nat.zero_le _⟩ dX11_originalOf_11 (wb' := [k_Model g a o pasts length printed told state r2.1 r2.2.1 boxes frees bestFree bestTurned bestFirst bestSecond v spare past kept isKept text paper r2.2.2.1 r2.2.2.2.1 r2.2.2.2.2.1 r2.2.2.2.2.2.1 r2.2.2.2.2.2.2.1 r2.2.2.2.2.2.2.2 boxX boxY boxW boxH freeAtX freeAtY freeW freeH begins ends tried aside]) rfl b_e0 1 rfl (by decide) (st2 := []) rfl (fun H locs hw => ?_)
    refine lv_aload_n hx hb dX11_originalOf_14 rfl (lv_at hl 0 rfl) ?_
    refine b_get hx hb hT hK hown fl_X11_44 hw 0 0 rfl rfl (v := .ref (a (o+12))) rfl dX11_originalOf_15 ?_
    refine lv_iload_n hx hb dX11_originalOf_18 rfl (lv_at hl 1 rfl) ?_
    obtain ⟨x3, ex3, hix3, h⟩ := g_rd_some h
    refine b_iald hx hb hK hw 0 12 rfl (f := r2.2.2.2.2.2.2.1) rfl hix3 ex3 dX11_originalOf_19 ?_
    refine lv_if_ge (tgt := 28) hx hb dX11_originalOf_20 (by decide) (fun hc20 => ?_) (fun hc20 => ?_)
    · rw [if_pos hc20] at h
      refine lv_aload_n hx hb dX11_originalOf_28 rfl (lv_at hl 0 rfl) ?_
      refine b_get hx hb hT hK hown fl_X11_44 hw 0 0 rfl rfl (v := .ref (a (o+12))) rfl dX11_originalOf_29 ?_
      refine lv_iload_n hx hb dX11_originalOf_32 rfl (lv_at hl 1 rfl) ?_
      obtain ⟨x4, ex4, hix4, h⟩ := g_rd_some h
      refine b_iald hx hb hK hw 0 12 rfl (f := r2.2.2.2.2.2.2.1) rfl hix4 ex4 dX11_originalOf_33 ?_
      obtain rfl := Option.some.inj h
      exact b_iret hQ hx hb hr hlk hw rfl dX11_originalOf_34
    · rw [if_neg hc20] at h
      refine lv_bipush (v := -4) hx hb dX11_originalOf_23 (by decide) ?_
      refine lv_goto (tgt := 34) hx hb dX11_originalOf_25 (by decide) ?_
      obtain rfl := Option.some.inj h
      exact b_iret hQ hx hb hr hlk hw rfl dX11_originalOf_34
  · rw [if_pos hc5] at h
    refine lv_iconst (v := -1) hx hb dX11_originalOf_8 (by decide) ?_
    obtain rfl := Option.some.inj h
    exact b_iret hQ hx hb hr hlk hw rfl dX11_originalOf_9
set_option maxRecDepth 100000 in
set_option maxHeartbeats 4000000 in
theorem c_X11_orientationOf (l : Launch) (D : va_G) (g : Nat → ClassId) (a : Nat → Nat) (o : Nat) (pasts : Int32) (length : Int32) (printed : Int32) (told : Int32) (state : Int64) (backX : Int32) (backY : Int32) (boxes : Int32) (frees : Int32) (bestFree : Int32) (bestTurned : Int32) (bestFirst : Int32) (bestSecond : Int32) (v : (Nat → Int32)) (spare : (Nat → Int32)) (past : (Nat → Int32)) (kept : (Nat → Int32)) (isKept : (Nat → Int32)) (text : (Nat → Int32)) (paper : (Nat → Int32)) (left : (Nat → Int32)) (top : (Nat → Int32)) (wide : (Nat → Int32)) (high : (Nat → Int32)) (original : (Nat → Int32)) (turn : (Nat → Int32)) (boxX : (Nat → Int32)) (boxY : (Nat → Int32)) (boxW : (Nat → Int32)) (boxH : (Nat → Int32)) (freeAtX : (Nat → Int32)) (freeAtY : (Nat → Int32)) (freeW : (Nat → Int32)) (freeH : (Nat → Int32)) (begins : (Nat → Int32)) (ends : (Nat → Int32)) (tried : (Nat → Int32)) (aside : (Nat → Int32)) (i1 : Int32) (u : Int32 × Int32 × Int32 × (Nat → Int32) × (Nat → Int32) × (Nat → Int32) × (Nat → Int32) × (Nat → Int32) × (Nat → Int32)) (h : f_X11_orientationOf backX backY v left top wide high original turn i1 = some u) : b_Ct l yX11_orientationOf cX11_orientationOf 2 (some .int) 5 125 D g [.ref (a o), .int i1] [k_Model g a o pasts length printed told state backX backY boxes frees bestFree bestTurned bestFirst bestSecond v spare past kept isKept text paper left top wide high original turn boxX boxY boxW boxH freeAtX freeAtY freeW freeH begins ends tried aside] [k_Model g a o pasts length printed told state u.2.1 u.2.2.1 boxes frees bestFree bestTurned bestFirst bestSecond v spare past kept isKept text paper u.2.2.2.1 u.2.2.2.2.1 u.2.2.2.2.2.1 u.2.2.2.2.2.2.1 u.2.2.2.2.2.2.2.1 u.2.2.2.2.2.2.2.2 boxX boxY boxW boxH freeAtX freeAtY freeW freeH begins ends tried aside] (some (.int u.1)) := by
  refine b_start RX11 (by decide) rfl (Nat.le_of_ble_eq_true rfl) rfl ?_
  intro p e s m args below meth c A ls Q hQ hx hb hr hlk hml hown hT hK hA hw hl
  have hl : lv_has ls 2 [(0, .ref (a o)), (1, .int i1)] := hl
  unfold f_X11_orientationOf at h
  refine lv_aload_n hx hb dX11_orientationOf_0 rfl (lv_at hl 0 rfl) ?_
  refine lv_iload_n hx hb dX11_orientationOf_1 rfl (lv_at hl 1 rfl) ?_
  obtain ⟨r1, er1, h⟩ := g_cl_some h
  refine b_callV hx hb hml hown hT hK hA hw mk_X11_138 (c_X11_isSprite l D g a o pasts length printed told state backX backY boxes frees bestFree bestTurned bestFirst bestSecond v spare past kept isKept text paper left top wide high original turn boxX boxY boxW boxH freeAtX freeAtY freeW freeH begins ends tried aside i1 r1 er1) [0] [] rfl (by decide) 0 0 rfl rfl rfl rfl hl.1 [] rfl (Nat.le_of_ble_eq_true rfl) ⟨Nat.le_of_ble_eq_true rfl, Nat.le_of_ble_eq_true rfl⟩ ⟨Nat.zero_le _, Nat.zero_le _⟩ dX11_orientationOf_2 (wb' := [k_Model g a o pasts length printed told state backX backY boxes frees bestFree bestTurned bestFirst bestSecond v spare past kept isKept text paper left top wide high original turn boxX boxY boxW boxH freeAtX freeAtY freeW freeH begins ends tried aside]) rfl b_e0 1 rfl (by decide) (st2 := [.int r1]) rfl (fun H locs hw => ?_)
  refine lv_if_ne (tgt := 10) hx hb dX11_orientationOf_5 (by decide) (fun hc5 => ?_) (fun hc5 => ?_)
  · rw [if_neg hc5] at h
    refine lv_aload_n hx hb dX11_orientationOf_10 rfl (lv_at hl 0 rfl) ?_
    obtain ⟨r2, er2, h⟩ := g_cl_some h
    refine b_callV hx hb hml hown hT hK hA hw mk_X11_176 (c_X11_knows l D g a o pasts length printed told state backX backY boxes frees bestFree bestTurned bestFirst bestSecond v spare past kept isKept text paper left top wide high original turn boxX boxY boxW boxH freeAtX freeAtY freeW freeH begins ends tried aside r2 er2) [0] [] rfl (by decide) 0 0 rfl rfl rfl rfl hl.1 [] rfl (Nat.le_of_ble_eq_true rfl) ⟨Nat.le_of_ble_eq_true rfl, Nat.le_of_ble_eq_true rfl⟩ ⟨Nat.zero_le _, Nat.zero_le _⟩ dX11_orientationOf_11 (wb' := [k_Model g a o pasts length printed told state r2.1 r2.2.1 boxes frees bestFree bestTurned bestFirst bestSecond v spare past kept isKept text paper r2.2.2.1 r2.2.2.2.1 r2.2.2.2.2.1 r2.2.2.2.2.2.1 r2.2.2.2.2.2.2.1 r2.2.2.2.2.2.2.2 boxX boxY boxW boxH freeAtX freeAtY freeW freeH begins ends tried aside]) rfl b_e0 1 rfl (by decide) (st2 := []) rfl (fun H locs hw => ?_)
    refine lv_aload_n hx hb dX11_orientationOf_14 rfl (lv_at hl 0 rfl) ?_
    refine b_get hx hb hT hK hown fl_X11_44 hw 0 0 rfl rfl (v := .ref (a (o+12))) rfl dX11_orientationOf_15 ?_
    refine lv_iload_n hx hb dX11_orientationOf_18 rfl (lv_at hl 1 rfl) ?_
    obtain ⟨x3, ex3, hix3, h⟩ := g_rd_some h
    refine b_iald hx hb hK hw 0 12 rfl (f := r2.2.2.2.2.2.2.1) rfl hix3 ex3 dX11_orientationOf_19 ?_
    refine lv_if_ge (tgt := 28) hx hb dX11_orientationOf_20 (by decide) (fun hc20 => ?_) (fun hc20 => ?_)
    · rw [if_pos hc20] at h
      refine lv_aload_n hx hb dX11_orientationOf_28 rfl (lv_at hl 0 rfl) ?_
      refine b_get hx hb hT hK hown fl_X11_47 hw 0 0 rfl rfl (v := .ref (a (o+13))) rfl dX11_orientationOf_29 ?_
      refine lv_iload_n hx hb dX11_orientationOf_32 rfl (lv_at hl 1 rfl) ?_
      obtain ⟨x4, ex4, hix4, h⟩ := g_rd_some h
      refine b_iald hx hb hK hw 0 13 rfl (f := r2.2.2.2.2.2.2.2) rfl hix4 ex4 dX11_orientationOf_33 ?_
      obtain rfl := Option.some.inj h
      exact b_iret hQ hx hb hr hlk hw rfl dX11_orientationOf_34
    · rw [if_neg hc20] at h
      refine lv_bipush (v := -4) hx hb dX11_orientationOf_23 (by decide) ?_
      refine lv_goto (tgt := 34) hx hb dX11_orientationOf_25 (by decide) ?_
      obtain rfl := Option.some.inj h
      exact b_iret hQ hx hb hr hlk hw rfl dX11_orientationOf_34
  · rw [if_pos hc5] at h
    refine lv_iconst (v := -1) hx hb dX11_orientationOf_8 (by decide) ?_
    obtain rfl := Option.some.inj h
    exact b_iret hQ hx hb hr hlk hw rfl dX11_orientationOf_9
set_option maxRecDepth 100000 in
set_option maxHeartbeats 4000000 in
theorem c_X11_setPageSize (l : Launch) (D : va_G) (g : Nat → ClassId) (a : Nat → Nat) (o : Nat) (pasts : Int32) (length : Int32) (printed : Int32) (told : Int32) (state : Int64) (backX : Int32) (backY : Int32) (boxes : Int32) (frees : Int32) (bestFree : Int32) (bestTurned : Int32) (bestFirst : Int32) (bestSecond : Int32) (v : (Nat → Int32)) (spare : (Nat → Int32)) (past : (Nat → Int32)) (kept : (Nat → Int32)) (isKept : (Nat → Int32)) (text : (Nat → Int32)) (paper : (Nat → Int32)) (left : (Nat → Int32)) (top : (Nat → Int32)) (wide : (Nat → Int32)) (high : (Nat → Int32)) (original : (Nat → Int32)) (turn : (Nat → Int32)) (boxX : (Nat → Int32)) (boxY : (Nat → Int32)) (boxW : (Nat → Int32)) (boxH : (Nat → Int32)) (freeAtX : (Nat → Int32)) (freeAtY : (Nat → Int32)) (freeW : (Nat → Int32)) (freeH : (Nat → Int32)) (begins : (Nat → Int32)) (ends : (Nat → Int32)) (tried : (Nat → Int32)) (aside : (Nat → Int32)) (i1 : Int32) (i2 : Int32) (u : Int32 × Int32 × (Nat → Int32) × (Nat → Int32)) (h : f_X11_setPageSize pasts v past i1 i2 = some u) : b_Ct l yX11_setPageSize cX11_setPageSize 4 (some .int) 3 65 D g [.ref (a o), .int i1, .int i2] [k_Model g a o pasts length printed told state backX backY boxes frees bestFree bestTurned bestFirst bestSecond v spare past kept isKept text paper left top wide high original turn boxX boxY boxW boxH freeAtX freeAtY freeW freeH begins ends tried aside] [k_Model g a o u.2.1 length printed told state backX backY boxes frees bestFree bestTurned bestFirst bestSecond u.2.2.1 spare u.2.2.2 kept isKept text paper left top wide high original turn boxX boxY boxW boxH freeAtX freeAtY freeW freeH begins ends tried aside] (some (.int u.1)) := by
  refine b_start RX11 (by decide) rfl (Nat.le_of_ble_eq_true rfl) rfl ?_
  intro p e s m args below meth c A ls Q hQ hx hb hr hlk hml hown hT hK hA hw hl
  have hl : lv_has ls 4 [(0, .ref (a o)), (1, .int i1), (2, .int i2)] := hl
  unfold f_X11_setPageSize at h
  refine lv_iload_n hx hb dX11_setPageSize_0 rfl (lv_at hl 1 rfl) ?_
  refine lv_iconst (v := 4) hx hb dX11_setPageSize_1 (by decide) ?_
  refine lv_bipush (v := 32) hx hb dX11_setPageSize_2 (by decide) ?_
  refine b_callS hx hb hml hown hT hK hA hw mk_X11_86 (c_X11_in l D g i1 (4 : Int32) (32 : Int32)) [] [0] rfl (by decide) rfl hl.1 [] rfl (Nat.le_of_ble_eq_true rfl) ⟨Nat.le_of_ble_eq_true rfl, Nat.le_of_ble_eq_true rfl⟩ ⟨Nat.zero_le _, Nat.zero_le _⟩ dX11_setPageSize_4 (wb' := [k_Model g a o pasts length printed told state backX backY boxes frees bestFree bestTurned bestFirst bestSecond v spare past kept isKept text paper left top wide high original turn boxX boxY boxW boxH freeAtX freeAtY freeW freeH begins ends tried aside]) rfl (b_e1 rfl b_e0) 1 rfl (by decide) (st2 := [.int (f_X11_in i1 (4 : Int32) (32 : Int32))]) rfl (fun H locs hw => ?_)
  refine lv_if_eq (tgt := 20) hx hb dX11_setPageSize_7 (by decide) (fun hc7 => ?_) (fun hc7 => ?_)
  · rw [if_pos hc7] at h
    refine lv_iconst (v := -1) hx hb dX11_setPageSize_20 (by decide) ?_
    obtain rfl := Option.some.inj h
    exact b_iret hQ hx hb hr hlk hw rfl dX11_setPageSize_21
  · rw [if_neg hc7] at h
    refine lv_iload_n hx hb dX11_setPageSize_10 rfl (lv_at hl 2 rfl) ?_
    refine lv_iconst (v := 4) hx hb dX11_setPageSize_11 (by decide) ?_
    refine lv_bipush (v := 32) hx hb dX11_setPageSize_12 (by decide) ?_
    refine b_callS hx hb hml hown hT hK hA hw mk_X11_86 (c_X11_in l D g i2 (4 : Int32) (32 : Int32)) [] [0] rfl (by decide) rfl hl.1 [] rfl (Nat.le_of_ble_eq_true rfl) ⟨Nat.le_of_ble_eq_true rfl, Nat.le_of_ble_eq_true rfl⟩ ⟨Nat.zero_le _, Nat.zero_le _⟩ dX11_setPageSize_14 (wb' := [k_Model g a o pasts length printed told state backX backY boxes frees bestFree bestTurned bestFirst bestSecond v spare past kept isKept text paper left top wide high original turn boxX boxY boxW boxH freeAtX freeAtY freeW freeH begins ends tried aside]) rfl (b_e1 rfl b_e0) 1 rfl (by decide) (st2 := [.int (f_X11_in i2 (4 : Int32) (32 : Int32))]) rfl (fun H locs hw => ?_)
    refine lv_if_ne (tgt := 22) hx hb dX11_setPageSize_17 (by decide) (fun hc17 => ?_) (fun hc17 => ?_)
    · rw [if_neg hc17] at h
      refine lv_aload_n hx hb dX11_setPageSize_22 rfl (lv_at hl 0 rfl) ?_
      refine b_get hx hb hT hK hown fl_X11_7 hw 0 0 rfl rfl (v := .ref (a (o+1))) rfl dX11_setPageSize_23 ?_
      refine lv_iconst (v := 2) hx hb dX11_setPageSize_26 (by decide) ?_
      obtain ⟨x1, ex1, hix1, h⟩ := g_rd_some h
      refine b_iald hx hb hK hw 0 1 rfl (f := v) rfl hix1 ex1 dX11_setPageSize_27 ?_
      refine lv_istore_n (lv' := [(3, .int x1), (0, .ref (a o)), (1, .int i1), (2, .int i2)]) hx hb dX11_setPageSize_28 rfl hl (by decide) rfl (fun ls hl => ?_)
      refine lv_iload_n hx hb dX11_setPageSize_29 rfl (lv_at hl 0 rfl) ?_
      refine lv_bipush (v := 100) hx hb dX11_setPageSize_30 (by decide) ?_
      refine lv_aload_n hx hb dX11_setPageSize_32 rfl (lv_at hl 1 rfl) ?_
      refine lv_iconst (v := 1) hx hb dX11_setPageSize_33 (by decide) ?_
      refine lv_iload_n hx hb dX11_setPageSize_34 rfl (lv_at hl 2 rfl) ?_
      obtain ⟨r2, er2, h⟩ := g_cl_some h
      refine b_callV hx hb hml hown hT hK hA hw mk_X11_145 (c_X11_sets l D g a o pasts length printed told state backX backY boxes frees bestFree bestTurned bestFirst bestSecond v spare past kept isKept text paper left top wide high original turn boxX boxY boxW boxH freeAtX freeAtY freeW freeH begins ends tried aside (1 : Int32) i1 r2 er2) [0] [] rfl (by decide) 0 0 rfl rfl rfl rfl hl.1 [.int (100 : Int32), .int x1] rfl (Nat.le_of_ble_eq_true rfl) ⟨Nat.le_of_ble_eq_true rfl, Nat.le_of_ble_eq_true rfl⟩ ⟨Nat.zero_le _, Nat.zero_le _⟩ dX11_setPageSize_35 (wb' := [k_Model g a o r2.2.1 length printed told state backX backY boxes frees bestFree bestTurned bestFirst bestSecond r2.2.2.1 spare r2.2.2.2 kept isKept text paper left top wide high original turn boxX boxY boxW boxH freeAtX freeAtY freeW freeH begins ends tried aside]) rfl b_e0 1 rfl (by decide) (st2 := [.int r2.1, .int (100 : Int32), .int x1]) rfl (fun H locs hw => ?_)
      refine lv_imul hx hb dX11_setPageSize_38 ?_
      refine lv_iadd hx hb dX11_setPageSize_39 ?_
      obtain ⟨x3, ex3, h⟩ := g_bd_nm h
      refine g_topi ex3 ?_
      refine lv_istore_n (lv' := [(3, .int x3), (0, .ref (a o)), (1, .int i1), (2, .int i2)]) hx hb dX11_setPageSize_40 rfl hl (by decide) rfl (fun ls hl => ?_)
      refine lv_aload_n hx hb dX11_setPageSize_41 rfl (lv_at hl 1 rfl) ?_
      refine b_get hx hb hT hK hown fl_X11_7 hw 0 0 rfl rfl (v := .ref (a (o+1))) rfl dX11_setPageSize_42 ?_
      refine lv_iconst (v := 2) hx hb dX11_setPageSize_45 (by decide) ?_
      refine lv_iload_n hx hb dX11_setPageSize_46 rfl (lv_at hl 3 rfl) ?_
      obtain ⟨f4, ef4, hif4, h⟩ := g_wr_some h
      refine b_iast hx hb hK hw 0 1 rfl (f := r2.2.2.1) rfl hif4 ef4 rfl (wb' := [k_Model g a o r2.2.1 length printed told state backX backY boxes frees bestFree bestTurned bestFirst bestSecond f4 spare r2.2.2.2 kept isKept text paper left top wide high original turn boxX boxY boxW boxH freeAtX freeAtY freeW freeH begins ends tried aside]) rfl dX11_setPageSize_47 (fun H locs hw => ?_)
      refine lv_iload_n hx hb dX11_setPageSize_48 rfl (lv_at hl 0 rfl) ?_
      obtain rfl := Option.some.inj h
      exact b_iret hQ hx hb hr hlk hw rfl dX11_setPageSize_49
    · rw [if_pos hc17] at h
      refine lv_iconst (v := -1) hx hb dX11_setPageSize_20 (by decide) ?_
      obtain rfl := Option.some.inj h
      exact b_iret hQ hx hb hr hlk hw rfl dX11_setPageSize_21
set_option maxRecDepth 100000 in
set_option maxHeartbeats 4000000 in
theorem c_X11_setPageLimit (l : Launch) (D : va_G) (g : Nat → ClassId) (a : Nat → Nat) (o : Nat) (pasts : Int32) (length : Int32) (printed : Int32) (told : Int32) (state : Int64) (backX : Int32) (backY : Int32) (boxes : Int32) (frees : Int32) (bestFree : Int32) (bestTurned : Int32) (bestFirst : Int32) (bestSecond : Int32) (v : (Nat → Int32)) (spare : (Nat → Int32)) (past : (Nat → Int32)) (kept : (Nat → Int32)) (isKept : (Nat → Int32)) (text : (Nat → Int32)) (paper : (Nat → Int32)) (left : (Nat → Int32)) (top : (Nat → Int32)) (wide : (Nat → Int32)) (high : (Nat → Int32)) (original : (Nat → Int32)) (turn : (Nat → Int32)) (boxX : (Nat → Int32)) (boxY : (Nat → Int32)) (boxW : (Nat → Int32)) (boxH : (Nat → Int32)) (freeAtX : (Nat → Int32)) (freeAtY : (Nat → Int32)) (freeW : (Nat → Int32)) (freeH : (Nat → Int32)) (begins : (Nat → Int32)) (ends : (Nat → Int32)) (tried : (Nat → Int32)) (aside : (Nat → Int32)) (i1 : Int32) (u : Int32 × Int32 × (Nat → Int32) × (Nat → Int32)) (h : f_X11_setPageLimit pasts v past i1 = some u) : b_Ct l yX11_setPageLimit cX11_setPageLimit 2 (some .int) 3 65 D g [.ref (a o), .int i1] [k_Model g a o pasts length printed told state backX backY boxes frees bestFree bestTurned bestFirst bestSecond v spare past kept isKept text paper left top wide high original turn boxX boxY boxW boxH freeAtX freeAtY freeW freeH begins ends tried aside] [k_Model g a o u.2.1 length printed told state backX backY boxes frees bestFree bestTurned bestFirst bestSecond u.2.2.1 spare u.2.2.2 kept isKept text paper left top wide high original turn boxX boxY boxW boxH freeAtX freeAtY freeW freeH begins ends tried aside] (some (.int u.1)) := by
  refine b_start RX11 (by decide) rfl (Nat.le_of_ble_eq_true rfl) rfl ?_
  intro p e s m args below meth c A ls Q hQ hx hb hr hlk hml hown hT hK hA hw hl
  have hl : lv_has ls 2 [(0, .ref (a o)), (1, .int i1)] := hl
  unfold f_X11_setPageLimit at h
  refine lv_iload_n hx hb dX11_setPageLimit_0 rfl (lv_at hl 1 rfl) ?_
  refine lv_iconst (v := 1) hx hb dX11_setPageLimit_1 (by decide) ?_
  refine lv_iconst (v := 4) hx hb dX11_setPageLimit_2 (by decide) ?_
  refine b_callS hx hb hml hown hT hK hA hw mk_X11_86 (c_X11_in l D g i1 (1 : Int32) (4 : Int32)) [] [0] rfl (by decide) rfl hl.1 [] rfl (Nat.le_of_ble_eq_true rfl) ⟨Nat.le_of_ble_eq_true rfl, Nat.le_of_ble_eq_true rfl⟩ ⟨Nat.zero_le _, Nat.zero_le _⟩ dX11_setPageLimit_3 (wb' := [k_Model g a o pasts length printed told state backX backY boxes frees bestFree bestTurned bestFirst bestSecond v spare past kept isKept text paper left top wide high original turn boxX boxY boxW boxH freeAtX freeAtY freeW freeH begins ends tried aside]) rfl (b_e1 rfl b_e0) 1 rfl (by decide) (st2 := [.int (f_X11_in i1 (1 : Int32) (4 : Int32))]) rfl (fun H locs hw => ?_)
  refine lv_if_eq (tgt := 18) hx hb dX11_setPageLimit_6 (by decide) (fun hc6 => ?_) (fun hc6 => ?_)
  · rw [if_pos hc6] at h
    refine lv_iconst (v := -1) hx hb dX11_setPageLimit_18 (by decide) ?_
    obtain rfl := Option.some.inj h
    exact b_iret hQ hx hb hr hlk hw rfl dX11_setPageLimit_19
  · rw [if_neg hc6] at h
    refine lv_aload_n hx hb dX11_setPageLimit_9 rfl (lv_at hl 0 rfl) ?_
    refine lv_iconst (v := 3) hx hb dX11_setPageLimit_10 (by decide) ?_
    refine lv_iload_n hx hb dX11_setPageLimit_11 rfl (lv_at hl 1 rfl) ?_
    obtain ⟨r1, er1, h⟩ := g_cl_some h
    refine b_callV hx hb hml hown hT hK hA hw mk_X11_145 (c_X11_sets l D g a o pasts length printed told state backX backY boxes frees bestFree bestTurned bestFirst bestSecond v spare past kept isKept text paper left top wide high original turn boxX boxY boxW boxH freeAtX freeAtY freeW freeH begins ends tried aside (3 : Int32) i1 r1 er1) [0] [] rfl (by decide) 0 0 rfl rfl rfl rfl hl.1 [] rfl (Nat.le_of_ble_eq_true rfl) ⟨Nat.le_of_ble_eq_true rfl, Nat.le_of_ble_eq_true rfl⟩ ⟨Nat.zero_le _, Nat.zero_le _⟩ dX11_setPageLimit_12 (wb' := [k_Model g a o r1.2.1 length printed told state backX backY boxes frees bestFree bestTurned bestFirst bestSecond r1.2.2.1 spare r1.2.2.2 kept isKept text paper left top wide high original turn boxX boxY boxW boxH freeAtX freeAtY freeW freeH begins ends tried aside]) rfl b_e0 1 rfl (by decide) (st2 := [.int r1.1]) rfl (fun H locs hw => ?_)
    refine lv_goto (tgt := 19) hx hb dX11_setPageLimit_15 (by decide) ?_
    obtain rfl := Option.some.inj h
    exact b_iret hQ hx hb hr hlk hw rfl dX11_setPageLimit_19
set_option maxRecDepth 100000 in
set_option maxHeartbeats 4000000 in
theorem c_X11_setMargins (l : Launch) (D : va_G) (g : Nat → ClassId) (a : Nat → Nat) (o : Nat) (pasts : Int32) (length : Int32) (printed : Int32) (told : Int32) (state : Int64) (backX : Int32) (backY : Int32) (boxes : Int32) (frees : Int32) (bestFree : Int32) (bestTurned : Int32) (bestFirst : Int32) (bestSecond : Int32) (v : (Nat → Int32)) (spare : (Nat → Int32)) (past : (Nat → Int32)) (kept : (Nat → Int32)) (isKept : (Nat → Int32)) (text : (Nat → Int32)) (paper : (Nat → Int32)) (left : (Nat → Int32)) (top : (Nat → Int32)) (wide : (Nat → Int32)) (high : (Nat → Int32)) (original : (Nat → Int32)) (turn : (Nat → Int32)) (boxX : (Nat → Int32)) (boxY : (Nat → Int32)) (boxW : (Nat → Int32)) (boxH : (Nat → Int32)) (freeAtX : (Nat → Int32)) (freeAtY : (Nat → Int32)) (freeW : (Nat → Int32)) (freeH : (Nat → Int32)) (begins : (Nat → Int32)) (ends : (Nat → Int32)) (tried : (Nat → Int32)) (aside : (Nat → Int32)) (i1 : Int32) (i2 : Int32) (i3 : Int32) (u : Int32 × Int32 × (Nat → Int32) × (Nat → Int32)) (h : f_X11_setMargins pasts v past i1 i2 i3 = some u) : b_Ct l yX11_setMargins cX11_setMargins 5 (some .int) 3 65 D g [.ref (a o), .int i1, .int i2, .int i3] [k_Model g a o pasts length printed told state backX backY boxes frees bestFree bestTurned bestFirst bestSecond v spare past kept isKept text paper left top wide high original turn boxX boxY boxW boxH freeAtX freeAtY freeW freeH begins ends tried aside] [k_Model g a o u.2.1 length printed told state backX backY boxes frees bestFree bestTurned bestFirst bestSecond u.2.2.1 spare u.2.2.2 kept isKept text paper left top wide high original turn boxX boxY boxW boxH freeAtX freeAtY freeW freeH begins ends tried aside] (some (.int u.1)) := by
  refine b_start RX11 (by decide) rfl (Nat.le_of_ble_eq_true rfl) rfl ?_
  intro p e s m args below meth c A ls Q hQ hx hb hr hlk hml hown hT hK hA hw hl
  have hl : lv_has ls 5 [(0, .ref (a o)), (1, .int i1), (2, .int i2), (3, .int i3)] := hl
  unfold f_X11_setMargins at h
  refine lv_iload_n hx hb dX11_setMargins_0 rfl (lv_at hl 1 rfl) ?_
  refine lv_iconst (v := 0) hx hb dX11_setMargins_1 (by decide) ?_
  refine lv_iconst (v := 3) hx hb dX11_setMargins_2 (by decide) ?_
  refine b_callS hx hb hml hown hT hK hA hw mk_X11_86 (c_X11_in l D g i1 (0 : Int32) (3 : Int32)) [] [0] rfl (by decide) rfl hl.1 [] rfl (Nat.le_of_ble_eq_true rfl) ⟨Nat.le_of_ble_eq_true rfl, Nat.le_of_ble_eq_true rfl⟩ ⟨Nat.zero_le _, Nat.zero_le _⟩ dX11_setMargins_3 (wb' := [k_Model g a o pasts length printed told state backX backY boxes frees bestFree bestTurned bestFirst bestSecond v spare past kept isKept text paper left top wide high original turn boxX boxY boxW boxH freeAtX freeAtY freeW freeH begins ends tried aside]) rfl (b_e1 rfl b_e0) 1 rfl (by decide) (st2 := [.int (f_X11_in i1 (0 : Int32) (3 : Int32))]) rfl (fun H locs hw => ?_)
  refine lv_if_eq (tgt := 27) hx hb dX11_setMargins_6 (by decide) (fun hc6 => ?_) (fun hc6 => ?_)
  · rw [if_pos hc6] at h
    refine lv_iconst (v := -1) hx hb dX11_setMargins_27 (by decide) ?_
    obtain rfl := Option.some.inj h
    exact b_iret hQ hx hb hr hlk hw rfl dX11_setMargins_28
  · rw [if_neg hc6] at h
    refine lv_iload_n hx hb dX11_setMargins_9 rfl (lv_at hl 2 rfl) ?_
    refine lv_iconst (v := 0) hx hb dX11_setMargins_10 (by decide) ?_
    refine lv_iconst (v := 3) hx hb dX11_setMargins_11 (by decide) ?_
    refine b_callS hx hb hml hown hT hK hA hw mk_X11_86 (c_X11_in l D g i2 (0 : Int32) (3 : Int32)) [] [0] rfl (by decide) rfl hl.1 [] rfl (Nat.le_of_ble_eq_true rfl) ⟨Nat.le_of_ble_eq_true rfl, Nat.le_of_ble_eq_true rfl⟩ ⟨Nat.zero_le _, Nat.zero_le _⟩ dX11_setMargins_12 (wb' := [k_Model g a o pasts length printed told state backX backY boxes frees bestFree bestTurned bestFirst bestSecond v spare past kept isKept text paper left top wide high original turn boxX boxY boxW boxH freeAtX freeAtY freeW freeH begins ends tried aside]) rfl (b_e1 rfl b_e0) 1 rfl (by decide) (st2 := [.int (f_X11_in i2 (0 : Int32) (3 : Int32))]) rfl (fun H locs hw => ?_)
    refine lv_if_eq (tgt := 27) hx hb dX11_setMargins_15 (by decide) (fun hc15 => ?_) (fun hc15 => ?_)
    · rw [if_pos hc15] at h
      refine lv_iconst (v := -1) hx hb dX11_setMargins_27 (by decide) ?_
      obtain rfl := Option.some.inj h
      exact b_iret hQ hx hb hr hlk hw rfl dX11_setMargins_28
    · rw [if_neg hc15] at h
      refine lv_iload_n hx hb dX11_setMargins_18 rfl (lv_at hl 3 rfl) ?_
      refine lv_iconst (v := 0) hx hb dX11_setMargins_19 (by decide) ?_
      refine lv_iconst (v := 2) hx hb dX11_setMargins_20 (by decide) ?_
      refine b_callS hx hb hml hown hT hK hA hw mk_X11_86 (c_X11_in l D g i3 (0 : Int32) (2 : Int32)) [] [0] rfl (by decide) rfl hl.1 [] rfl (Nat.le_of_ble_eq_true rfl) ⟨Nat.le_of_ble_eq_true rfl, Nat.le_of_ble_eq_true rfl⟩ ⟨Nat.zero_le _, Nat.zero_le _⟩ dX11_setMargins_21 (wb' := [k_Model g a o pasts length printed told state backX backY boxes frees bestFree bestTurned bestFirst bestSecond v spare past kept isKept text paper left top wide high original turn boxX boxY boxW boxH freeAtX freeAtY freeW freeH begins ends tried aside]) rfl (b_e1 rfl b_e0) 1 rfl (by decide) (st2 := [.int (f_X11_in i3 (0 : Int32) (2 : Int32))]) rfl (fun H locs hw => ?_)
      refine lv_if_ne (tgt := 29) hx hb dX11_setMargins_24 (by decide) (fun hc24 => ?_) (fun hc24 => ?_)
      · rw [if_neg hc24] at h
        refine lv_bipush (v := 10) hx hb dX11_setMargins_29 (by decide) ?_
        refine lv_aload_n hx hb dX11_setMargins_31 rfl (lv_at hl 0 rfl) ?_
        refine b_get hx hb hT hK hown fl_X11_7 hw 0 0 rfl rfl (v := .ref (a (o+1))) rfl dX11_setMargins_32 ?_
        refine lv_iconst (v := 5) hx hb dX11_setMargins_35 (by decide) ?_
        obtain ⟨x1, ex1, hix1, h⟩ := g_rd_some h
        refine b_iald hx hb hK hw 0 1 rfl (f := v) rfl hix1 ex1 dX11_setMargins_36 ?_
        refine lv_imul hx hb dX11_setMargins_37 ?_
        refine lv_aload_n hx hb dX11_setMargins_38 rfl (lv_at hl 0 rfl) ?_
        refine b_get hx hb hT hK hown fl_X11_7 hw 0 0 rfl rfl (v := .ref (a (o+1))) rfl dX11_setMargins_39 ?_
        refine lv_bipush (v := 6) hx hb dX11_setMargins_42 (by decide) ?_
        obtain ⟨x2, ex2, hix2, h⟩ := g_rd_some h
        refine b_iald hx hb hK hw 0 1 rfl (f := v) rfl hix2 ex2 dX11_setMargins_44 ?_
        refine lv_iadd hx hb dX11_setMargins_45 ?_
        obtain ⟨x3, ex3, h⟩ := g_bd_nm h
        refine g_topi ex3 ?_
        refine lv_istore (lv' := [(4, .int x3), (0, .ref (a o)), (1, .int i1), (2, .int i2), (3, .int i3)]) hx hb dX11_setMargins_46 hl (by decide) rfl (fun ls hl => ?_)
        refine lv_iload hx hb dX11_setMargins_48 (lv_at hl 0 rfl) ?_
        refine lv_bipush (v := 100) hx hb dX11_setMargins_50 (by decide) ?_
        refine lv_aload_n hx hb dX11_setMargins_52 rfl (lv_at hl 1 rfl) ?_
        refine lv_iconst (v := 4) hx hb dX11_setMargins_53 (by decide) ?_
        refine lv_iload_n hx hb dX11_setMargins_54 rfl (lv_at hl 2 rfl) ?_
        obtain ⟨r4, er4, h⟩ := g_cl_some h
        refine b_callV hx hb hml hown hT hK hA hw mk_X11_145 (c_X11_sets l D g a o pasts length printed told state backX backY boxes frees bestFree bestTurned bestFirst bestSecond v spare past kept isKept text paper left top wide high original turn boxX boxY boxW boxH freeAtX freeAtY freeW freeH begins ends tried aside (4 : Int32) i1 r4 er4) [0] [] rfl (by decide) 0 0 rfl rfl rfl rfl hl.1 [.int (100 : Int32), .int x3] rfl (Nat.le_of_ble_eq_true rfl) ⟨Nat.le_of_ble_eq_true rfl, Nat.le_of_ble_eq_true rfl⟩ ⟨Nat.zero_le _, Nat.zero_le _⟩ dX11_setMargins_55 (wb' := [k_Model g a o r4.2.1 length printed told state backX backY boxes frees bestFree bestTurned bestFirst bestSecond r4.2.2.1 spare r4.2.2.2 kept isKept text paper left top wide high original turn boxX boxY boxW boxH freeAtX freeAtY freeW freeH begins ends tried aside]) rfl b_e0 1 rfl (by decide) (st2 := [.int r4.1, .int (100 : Int32), .int x3]) rfl (fun H locs hw => ?_)
        refine lv_imul hx hb dX11_setMargins_58 ?_
        refine lv_iadd hx hb dX11_setMargins_59 ?_
        obtain ⟨x5, ex5, h⟩ := g_bd_nm h
        refine g_topi ex5 ?_
        refine lv_istore (lv' := [(4, .int x5), (0, .ref (a o)), (1, .int i1), (2, .int i2), (3, .int i3)]) hx hb dX11_setMargins_60 hl (by decide) rfl (fun ls hl => ?_)
        refine lv_aload_n hx hb dX11_setMargins_62 rfl (lv_at hl 1 rfl) ?_
        refine b_get hx hb hT hK hown fl_X11_7 hw 0 0 rfl rfl (v := .ref (a (o+1))) rfl dX11_setMargins_63 ?_
        refine lv_iconst (v := 5) hx hb dX11_setMargins_66 (by decide) ?_
        refine lv_iload_n hx hb dX11_setMargins_67 rfl (lv_at hl 3 rfl) ?_
        obtain ⟨f6, ef6, hif6, h⟩ := g_wr_some h
        refine b_iast hx hb hK hw 0 1 rfl (f := r4.2.2.1) rfl hif6 ef6 rfl (wb' := [k_Model g a o r4.2.1 length printed told state backX backY boxes frees bestFree bestTurned bestFirst bestSecond f6 spare r4.2.2.2 kept isKept text paper left top wide high original turn boxX boxY boxW boxH freeAtX freeAtY freeW freeH begins ends tried aside]) rfl dX11_setMargins_68 (fun H locs hw => ?_)
        refine lv_aload_n hx hb dX11_setMargins_69 rfl (lv_at hl 1 rfl) ?_
        refine b_get hx hb hT hK hown fl_X11_7 hw 0 0 rfl rfl (v := .ref (a (o+1))) rfl dX11_setMargins_70 ?_
        refine lv_bipush (v := 6) hx hb dX11_setMargins_73 (by decide) ?_
        refine lv_iload_n hx hb dX11_setMargins_75 rfl (lv_at hl 4 rfl) ?_
        obtain ⟨f7, ef7, hif7, h⟩ := g_wr_some h
        refine b_iast hx hb hK hw 0 1 rfl (f := f6) rfl hif7 ef7 rfl (wb' := [k_Model g a o r4.2.1 length printed told state backX backY boxes frees bestFree bestTurned bestFirst bestSecond f7 spare r4.2.2.2 kept isKept text paper left top wide high original turn boxX boxY boxW boxH freeAtX freeAtY freeW freeH begins ends tried aside]) rfl dX11_setMargins_76 (fun H locs hw => ?_)
        refine lv_iload hx hb dX11_setMargins_77 (lv_at hl 0 rfl) ?_
        obtain rfl := Option.some.inj h
        exact b_iret hQ hx hb hr hlk hw rfl dX11_setMargins_79
      · rw [if_pos hc24] at h
        refine lv_iconst (v := -1) hx hb dX11_setMargins_27 (by decide) ?_
        obtain rfl := Option.some.inj h
        exact b_iret hQ hx hb hr hlk hw rfl dX11_setMargins_28
set_option maxRecDepth 100000 in
set_option maxHeartbeats 4000000 in
theorem c_X11_setTrimming (l : Launch) (D : va_G) (g : Nat → ClassId) (a : Nat → Nat) (o : Nat) (pasts : Int32) (length : Int32) (printed : Int32) (told : Int32) (state : Int64) (backX : Int32) (backY : Int32) (boxes : Int32) (frees : Int32) (bestFree : Int32) (bestTurned : Int32) (bestFirst : Int32) (bestSecond : Int32) (v : (Nat → Int32)) (spare : (Nat → Int32)) (past : (Nat → Int32)) (kept : (Nat → Int32)) (isKept : (Nat → Int32)) (text : (Nat → Int32)) (paper : (Nat → Int32)) (left : (Nat → Int32)) (top : (Nat → Int32)) (wide : (Nat → Int32)) (high : (Nat → Int32)) (original : (Nat → Int32)) (turn : (Nat → Int32)) (boxX : (Nat → Int32)) (boxY : (Nat → Int32)) (boxW : (Nat → Int32)) (boxH : (Nat → Int32)) (freeAtX : (Nat → Int32)) (freeAtY : (Nat → Int32)) (freeW : (Nat → Int32)) (freeH : (Nat → Int32)) (begins : (Nat → Int32)) (ends : (Nat → Int32)) (tried : (Nat → Int32)) (aside : (Nat → Int32)) (i1 : Int32) (u : Int32 × Int32 × (Nat → Int32) × (Nat → Int32)) (h : f_X11_setTrimming pasts v past i1 = some u) : b_Ct l yX11_setTrimming cX11_setTrimming 2 (some .int) 3 65 D g [.ref (a o), .int i1] [k_Model g a o pasts length printed told state backX backY boxes frees bestFree bestTurned bestFirst bestSecond v spare past kept isKept text paper left top wide high original turn boxX boxY boxW boxH freeAtX freeAtY freeW freeH begins ends tried aside] [k_Model g a o u.2.1 length printed told state backX backY boxes frees bestFree bestTurned bestFirst bestSecond u.2.2.1 spare u.2.2.2 kept isKept text paper left top wide high original turn boxX boxY boxW boxH freeAtX freeAtY freeW freeH begins ends tried aside] (some (.int u.1)) := by
  refine b_start RX11 (by decide) rfl (Nat.le_of_ble_eq_true rfl) rfl ?_
  intro p e s m args below meth c A ls Q hQ hx hb hr hlk hml hown hT hK hA hw hl
  have hl : lv_has ls 2 [(0, .ref (a o)), (1, .int i1)] := hl
  unfold f_X11_setTrimming at h
  refine lv_aload_n hx hb dX11_setTrimming_0 rfl (lv_at hl 0 rfl) ?_
  refine lv_bipush (v := 7) hx hb dX11_setTrimming_1 (by decide) ?_
  refine lv_iload_n hx hb dX11_setTrimming_3 rfl (lv_at hl 1 rfl) ?_
  obtain ⟨j12_1, ej12_1, h⟩ := g_bd_k h
  have hj12_1 : ∀ (x1 : Int32) (H : Heap) (locs : List Loc) (ls : Array Slot), b_Wd D A s.heap H locs [k_Model g a o pasts length printed told state backX backY boxes frees bestFree bestTurned bestFirst bestSecond v spare past kept isKept text paper left top wide high original turn boxX boxY boxW boxH freeAtX freeAtY freeW freeH begins ends tried aside] → lv_has ls 2 [] → j12_1 x1 = some u → W p l e (g_rm 3 65) s m args below meth c H locs 0 0 Q (F0 m 12 ls [.int x1, .int (7 : Int32), .ref (a o)]) := by
    intro x1 H locs ls hw hl h
    subst ej12_1
    dsimp only at h
    obtain ⟨r2, er2, h⟩ := g_cl_some h
    refine b_callV hx hb hml hown hT hK hA hw mk_X11_145 (c_X11_sets l D g a o pasts length printed told state backX backY boxes frees bestFree bestTurned bestFirst bestSecond v spare past kept isKept text paper left top wide high original turn boxX boxY boxW boxH freeAtX freeAtY freeW freeH begins ends tried aside (7 : Int32) x1 r2 er2) [0] [] rfl (by decide) 0 0 rfl rfl rfl rfl hl.1 [] rfl (Nat.le_of_ble_eq_true rfl) ⟨Nat.le_of_ble_eq_true rfl, Nat.le_of_ble_eq_true rfl⟩ ⟨Nat.zero_le _, Nat.zero_le _⟩ dX11_setTrimming_12 (wb' := [k_Model g a o r2.2.1 length printed told state backX backY boxes frees bestFree bestTurned bestFirst bestSecond r2.2.2.1 spare r2.2.2.2 kept isKept text paper left top wide high original turn boxX boxY boxW boxH freeAtX freeAtY freeW freeH begins ends tried aside]) rfl b_e0 1 rfl (by decide) (st2 := [.int r2.1]) rfl (fun H locs hw => ?_)
    obtain rfl := Option.some.inj h
    exact b_iret hQ hx hb hr hlk hw rfl dX11_setTrimming_15
  refine lv_if_eq (tgt := 11) hx hb dX11_setTrimming_4 (by decide) (fun hc4 => ?_) (fun hc4 => ?_)
  · rw [if_pos hc4] at h
    refine lv_iconst (v := 0) hx hb dX11_setTrimming_11 (by decide) ?_
    exact hj12_1 (0 : Int32) _ _ _ hw (lv_sub hl [] rfl) h
  · rw [if_neg hc4] at h
    refine lv_iconst (v := 1) hx hb dX11_setTrimming_7 (by decide) ?_
    refine lv_goto (tgt := 12) hx hb dX11_setTrimming_8 (by decide) ?_
    exact hj12_1 (1 : Int32) _ _ _ hw (lv_sub hl [] rfl) h
set_option maxRecDepth 100000 in
set_option maxHeartbeats 4000000 in
theorem c_X11_setMatching (l : Launch) (D : va_G) (g : Nat → ClassId) (a : Nat → Nat) (o : Nat) (pasts : Int32) (length : Int32) (printed : Int32) (told : Int32) (state : Int64) (backX : Int32) (backY : Int32) (boxes : Int32) (frees : Int32) (bestFree : Int32) (bestTurned : Int32) (bestFirst : Int32) (bestSecond : Int32) (v : (Nat → Int32)) (spare : (Nat → Int32)) (past : (Nat → Int32)) (kept : (Nat → Int32)) (isKept : (Nat → Int32)) (text : (Nat → Int32)) (paper : (Nat → Int32)) (left : (Nat → Int32)) (top : (Nat → Int32)) (wide : (Nat → Int32)) (high : (Nat → Int32)) (original : (Nat → Int32)) (turn : (Nat → Int32)) (boxX : (Nat → Int32)) (boxY : (Nat → Int32)) (boxW : (Nat → Int32)) (boxH : (Nat → Int32)) (freeAtX : (Nat → Int32)) (freeAtY : (Nat → Int32)) (freeW : (Nat → Int32)) (freeH : (Nat → Int32)) (begins : (Nat → Int32)) (ends : (Nat → Int32)) (tried : (Nat → Int32)) (aside : (Nat → Int32)) (i1 : Int32) (u : Int32 × Int32 × (Nat → Int32) × (Nat → Int32)) (h : f_X11_setMatching pasts v past i1 = some u) : b_Ct l yX11_setMatching cX11_setMatching 2 (some .int) 3 65 D g [.ref (a o), .int i1] [k_Model g a o pasts length printed told state backX backY boxes frees bestFree bestTurned bestFirst bestSecond v spare past kept isKept text paper left top wide high original turn boxX boxY boxW boxH freeAtX freeAtY freeW freeH begins ends tried aside] [k_Model g a o u.2.1 length printed told state backX backY boxes frees bestFree bestTurned bestFirst bestSecond u.2.2.1 spare u.2.2.2 kept isKept text paper left top wide high original turn boxX boxY boxW boxH freeAtX freeAtY freeW freeH begins ends tried aside] (some (.int u.1)) := by
  refine b_start RX11 (by decide) rfl (Nat.le_of_ble_eq_true rfl) rfl ?_
  intro p e s m args below meth c A ls Q hQ hx hb hr hlk hml hown hT hK hA hw hl
  have hl : lv_has ls 2 [(0, .ref (a o)), (1, .int i1)] := hl
  unfold f_X11_setMatching at h
  refine lv_iload_n hx hb dX11_setMatching_0 rfl (lv_at hl 1 rfl) ?_
  refine lv_iconst (v := 0) hx hb dX11_setMatching_1 (by decide) ?_
  refine lv_iconst (v := 3) hx hb dX11_setMatching_2 (by decide) ?_
  refine b_callS hx hb hml hown hT hK hA hw mk_X11_86 (c_X11_in l D g i1 (0 : Int32) (3 : Int32)) [] [0] rfl (by decide) rfl hl.1 [] rfl (Nat.le_of_ble_eq_true rfl) ⟨Nat.le_of_ble_eq_true rfl, Nat.le_of_ble_eq_true rfl⟩ ⟨Nat.zero_le _, Nat.zero_le _⟩ dX11_setMatching_3 (wb' := [k_Model g a o pasts length printed told state backX backY boxes frees bestFree bestTurned bestFirst bestSecond v spare past kept isKept text paper left top wide high original turn boxX boxY boxW boxH freeAtX freeAtY freeW freeH begins ends tried aside]) rfl (b_e1 rfl b_e0) 1 rfl (by decide) (st2 := [.int (f_X11_in i1 (0 : Int32) (3 : Int32))]) rfl (fun H locs hw => ?_)
  refine lv_if_eq (tgt := 19) hx hb dX11_setMatching_6 (by decide) (fun hc6 => ?_) (fun hc6 => ?_)
  · rw [if_pos hc6] at h
    refine lv_iconst (v := -1) hx hb dX11_setMatching_19 (by decide) ?_
    obtain rfl := Option.some.inj h
    exact b_iret hQ hx hb hr hlk hw rfl dX11_setMatching_20
  · rw [if_neg hc6] at h
    refine lv_aload_n hx hb dX11_setMatching_9 rfl (lv_at hl 0 rfl) ?_
    refine lv_bipush (v := 8) hx hb dX11_setMatching_10 (by decide) ?_
    refine lv_iload_n hx hb dX11_setMatching_12 rfl (lv_at hl 1 rfl) ?_
    obtain ⟨r1, er1, h⟩ := g_cl_some h
    refine b_callV hx hb hml hown hT hK hA hw mk_X11_145 (c_X11_sets l D g a o pasts length printed told state backX backY boxes frees bestFree bestTurned bestFirst bestSecond v spare past kept isKept text paper left top wide high original turn boxX boxY boxW boxH freeAtX freeAtY freeW freeH begins ends tried aside (8 : Int32) i1 r1 er1) [0] [] rfl (by decide) 0 0 rfl rfl rfl rfl hl.1 [] rfl (Nat.le_of_ble_eq_true rfl) ⟨Nat.le_of_ble_eq_true rfl, Nat.le_of_ble_eq_true rfl⟩ ⟨Nat.zero_le _, Nat.zero_le _⟩ dX11_setMatching_13 (wb' := [k_Model g a o r1.2.1 length printed told state backX backY boxes frees bestFree bestTurned bestFirst bestSecond r1.2.2.1 spare r1.2.2.2 kept isKept text paper left top wide high original turn boxX boxY boxW boxH freeAtX freeAtY freeW freeH begins ends tried aside]) rfl b_e0 1 rfl (by decide) (st2 := [.int r1.1]) rfl (fun H locs hw => ?_)
    refine lv_goto (tgt := 20) hx hb dX11_setMatching_16 (by decide) ?_
    obtain rfl := Option.some.inj h
    exact b_iret hQ hx hb hr hlk hw rfl dX11_setMatching_20
