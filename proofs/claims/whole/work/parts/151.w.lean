set_option maxRecDepth 100000 in
set_option maxHeartbeats 4000000 in
theorem c_X11_copies (l : Launch) (D : va_G) (g : Nat → ClassId) (a : Nat → Nat) (o : Nat) (pasts : Int32) (length : Int32) (printed : Int32) (told : Int32) (state : Int64) (backX : Int32) (backY : Int32) (boxes : Int32) (frees : Int32) (bestFree : Int32) (bestTurned : Int32) (bestFirst : Int32) (bestSecond : Int32) (v : (Nat → Int32)) (spare : (Nat → Int32)) (past : (Nat → Int32)) (kept : (Nat → Int32)) (isKept : (Nat → Int32)) (text : (Nat → Int32)) (paper : (Nat → Int32)) (left : (Nat → Int32)) (top : (Nat → Int32)) (wide : (Nat → Int32)) (high : (Nat → Int32)) (original : (Nat → Int32)) (turn : (Nat → Int32)) (boxX : (Nat → Int32)) (boxY : (Nat → Int32)) (boxW : (Nat → Int32)) (boxH : (Nat → Int32)) (freeAtX : (Nat → Int32)) (freeAtY : (Nat → Int32)) (freeW : (Nat → Int32)) (freeH : (Nat → Int32)) (begins : (Nat → Int32)) (ends : (Nat → Int32)) (tried : (Nat → Int32)) (aside : (Nat → Int32)) (i1 : Int32) (i2 : Int32) (u : (Nat → Int32) × (Nat → Int32)) (h : f_X11_copies v aside i1 i2 = some u) : b_Ct l yX11_copies cX11_copies 4 none 1 21 D g [.ref (a o), .int i1, .int i2] [k_Model g a o pasts length printed told state backX backY boxes frees bestFree bestTurned bestFirst bestSecond v spare past kept isKept text paper left top wide high original turn boxX boxY boxW boxH freeAtX freeAtY freeW freeH begins ends tried aside] [k_Model g a o pasts length printed told state backX backY boxes frees bestFree bestTurned bestFirst bestSecond u.1 spare past kept isKept text paper left top wide high original turn boxX boxY boxW boxH freeAtX freeAtY freeW freeH begins ends tried u.2] none := by
  refine b_start RX11 (by decide) rfl (Nat.le_of_ble_eq_true rfl) rfl ?_
  intro p e s m args below meth c A ls Q hQ hx hb hr hlk hml hown hT hK hA hw hl
  have hl : lv_has ls 4 [(0, .ref (a o)), (1, .int i1), (2, .int i2)] := hl
  unfold f_X11_copies at h
  refine lv_iconst (v := 0) hx hb dX11_copies_0 (by decide) ?_
  refine lv_istore_n (lv' := [(3, .int (0 : Int32)), (0, .ref (a o)), (1, .int i1), (2, .int i2)]) hx hb dX11_copies_1 rfl hl (by decide) rfl (fun ls hl => ?_)
  have hL2 : ∀ (n : Nat) (x1 : Int32) (f2 : Nat → Int32) (f3 : Nat → Int32) (H : Heap) (locs : List Loc) (ls : Array Slot), b_Wd D A s.heap H locs [k_Model g a o pasts length printed told state backX backY boxes frees bestFree bestTurned bestFirst bestSecond f2 spare past kept isKept text paper left top wide high original turn boxX boxY boxW boxH freeAtX freeAtY freeW freeH begins ends tried f3] → lv_has ls 4 [(0, .ref (a o)), (1, .int i1), (2, .int i2), (3, .int x1)] → f_X11_copies_L2 i1 i2 n x1 f2 f3 = some u → W p l e (g_rm 1 21) s m args below meth c H locs 0 0 Q (F0 m 2 ls []) := by
    intro n
    induction n with
    | zero =>
      intro x1 f2 f3 H locs ls hw hl h
      cases (show none = some u from h)
    | succ n ih2 =>
      intro x1 f2 f3 H locs ls hw hl h
      rw [f_X11_copies_L2] at h
      refine lv_iload_n hx hb dX11_copies_2 rfl (lv_at hl 3 rfl) ?_
      refine lv_iconst (v := 4) hx hb dX11_copies_3 (by decide) ?_
      refine lv_icmp_ge (tgt := 56) hx hb dX11_copies_4 (by decide) (fun hc4 => ?_) (fun hc4 => ?_)
      · rw [if_pos hc4] at h
        obtain rfl := Option.some.inj h
        exact b_vret hQ hx hb hr hlk hw rfl dX11_copies_56
      · rw [if_neg hc4] at h
        refine lv_iload_n hx hb dX11_copies_7 rfl (lv_at hl 2 rfl) ?_
        obtain ⟨j50_5, ej50_5, h⟩ := g_jn_nm h
        have hj50_5 : ∀ (f4 : Nat → Int32) (f5 : Nat → Int32) (H : Heap) (locs : List Loc) (ls : Array Slot), b_Wd D A s.heap H locs [k_Model g a o pasts length printed told state backX backY boxes frees bestFree bestTurned bestFirst bestSecond f4 spare past kept isKept text paper left top wide high original turn boxX boxY boxW boxH freeAtX freeAtY freeW freeH begins ends tried f5] → lv_has ls 4 [(0, .ref (a o)), (1, .int i1), (2, .int i2), (3, .int x1)] → j50_5 f4 f5 = some u → W p l e (g_rm 1 21) s m args below meth c H locs 0 0 Q (F0 m 50 ls []) := by
          intro f4 f5 H locs ls hw hl h
          subst ej50_5
          dsimp only at h
          obtain ⟨x7, ex7, h⟩ := g_bd_nm h
          refine lv_iinc (v := x7) (lv' := [(3, .int x7), (0, .ref (a o)), (1, .int i1), (2, .int i2)]) hx hb dX11_copies_50 hl (k := 3) rfl (by rw [ex7]; rfl) (by decide) rfl (fun ls hl => ?_)
          refine lv_goto (tgt := 2) hx hb dX11_copies_53 (by decide) ?_
          exact ih2 x7 f4 f5 _ _ _ hw (lv_sub hl [1, 2, 3, 0] rfl) h
        refine lv_if_eq (tgt := 32) hx hb dX11_copies_8 (by decide) (fun hc8 => ?_) (fun hc8 => ?_)
        · rw [if_pos hc8] at h
          refine lv_aload_n hx hb dX11_copies_32 rfl (lv_at hl 0 rfl) ?_
          refine b_get hx hb hT hK hown fl_X11_7 hw 0 0 rfl rfl (v := .ref (a (o+1))) rfl dX11_copies_33 ?_
          refine lv_iload_n hx hb dX11_copies_36 rfl (lv_at hl 1 rfl) ?_
          refine lv_iconst (v := 3) hx hb dX11_copies_37 (by decide) ?_
          refine lv_iload_n hx hb dX11_copies_38 rfl (lv_at hl 3 rfl) ?_
          refine lv_iadd hx hb dX11_copies_39 ?_
          refine b_callS hx hb hml hown hT hK hA hw mk_X11_94 (c_X11_at l D g i1 ((3 : Int32) + x1)) [] [0] rfl (by decide) rfl hl.1 [.ref (a (o+1))] rfl (Nat.le_of_ble_eq_true rfl) ⟨Nat.le_of_ble_eq_true rfl, Nat.le_of_ble_eq_true rfl⟩ ⟨Nat.zero_le _, Nat.zero_le _⟩ dX11_copies_40 (wb' := [k_Model g a o pasts length printed told state backX backY boxes frees bestFree bestTurned bestFirst bestSecond f2 spare past kept isKept text paper left top wide high original turn boxX boxY boxW boxH freeAtX freeAtY freeW freeH begins ends tried f3]) rfl (b_e1 rfl b_e0) 1 rfl (by decide) (st2 := [.int (f_X11_at i1 ((3 : Int32) + x1)), .ref (a (o+1))]) rfl (fun H locs hw => ?_)
          refine lv_aload_n hx hb dX11_copies_43 rfl (lv_at hl 0 rfl) ?_
          refine b_get hx hb hT hK hown fl_X11_83 hw 0 0 rfl rfl (v := .ref (a (o+25))) rfl dX11_copies_44 ?_
          refine lv_iload_n hx hb dX11_copies_47 rfl (lv_at hl 3 rfl) ?_
          obtain ⟨x8, ex8, hix8, h⟩ := g_rd_some h
          refine b_iald hx hb hK hw 0 25 rfl (f := f3) rfl hix8 ex8 dX11_copies_48 ?_
          obtain ⟨f9, ef9, hif9, h⟩ := g_wr_some h
          refine b_iast hx hb hK hw 0 1 rfl (f := f2) rfl hif9 ef9 rfl (wb' := [k_Model g a o pasts length printed told state backX backY boxes frees bestFree bestTurned bestFirst bestSecond f9 spare past kept isKept text paper left top wide high original turn boxX boxY boxW boxH freeAtX freeAtY freeW freeH begins ends tried f3]) rfl dX11_copies_49 (fun H locs hw => ?_)
          exact hj50_5 f9 f3 _ _ _ hw (lv_sub hl [0, 1, 2, 3] rfl) h
        · rw [if_neg hc8] at h
          refine lv_aload_n hx hb dX11_copies_11 rfl (lv_at hl 0 rfl) ?_
          refine b_get hx hb hT hK hown fl_X11_83 hw 0 0 rfl rfl (v := .ref (a (o+25))) rfl dX11_copies_12 ?_
          refine lv_iload_n hx hb dX11_copies_15 rfl (lv_at hl 3 rfl) ?_
          refine lv_aload_n hx hb dX11_copies_16 rfl (lv_at hl 0 rfl) ?_
          refine b_get hx hb hT hK hown fl_X11_7 hw 0 0 rfl rfl (v := .ref (a (o+1))) rfl dX11_copies_17 ?_
          refine lv_iload_n hx hb dX11_copies_20 rfl (lv_at hl 1 rfl) ?_
          refine lv_iconst (v := 3) hx hb dX11_copies_21 (by decide) ?_
          refine lv_iload_n hx hb dX11_copies_22 rfl (lv_at hl 3 rfl) ?_
          refine lv_iadd hx hb dX11_copies_23 ?_
          refine b_callS hx hb hml hown hT hK hA hw mk_X11_94 (c_X11_at l D g i1 ((3 : Int32) + x1)) [] [0] rfl (by decide) rfl hl.1 [.ref (a (o+1)), .int x1, .ref (a (o+25))] rfl (Nat.le_of_ble_eq_true rfl) ⟨Nat.le_of_ble_eq_true rfl, Nat.le_of_ble_eq_true rfl⟩ ⟨Nat.zero_le _, Nat.zero_le _⟩ dX11_copies_24 (wb' := [k_Model g a o pasts length printed told state backX backY boxes frees bestFree bestTurned bestFirst bestSecond f2 spare past kept isKept text paper left top wide high original turn boxX boxY boxW boxH freeAtX freeAtY freeW freeH begins ends tried f3]) rfl (b_e1 rfl b_e0) 1 rfl (by decide) (st2 := [.int (f_X11_at i1 ((3 : Int32) + x1)), .ref (a (o+1)), .int x1, .ref (a (o+25))]) rfl (fun H locs hw => ?_)
          obtain ⟨x10, ex10, hix10, h⟩ := g_rd_some h
          refine b_iald hx hb hK hw 0 1 rfl (f := f2) rfl hix10 ex10 dX11_copies_27 ?_
          obtain ⟨f11, ef11, hif11, h⟩ := g_wr_some h
          refine b_iast hx hb hK hw 0 25 rfl (f := f3) rfl hif11 ef11 rfl (wb' := [k_Model g a o pasts length printed told state backX backY boxes frees bestFree bestTurned bestFirst bestSecond f2 spare past kept isKept text paper left top wide high original turn boxX boxY boxW boxH freeAtX freeAtY freeW freeH begins ends tried f11]) rfl dX11_copies_28 (fun H locs hw => ?_)
          refine lv_goto (tgt := 50) hx hb dX11_copies_29 (by decide) ?_
          exact hj50_5 f2 f11 _ _ _ hw (lv_sub hl [0, 1, 2, 3] rfl) h
  exact hL2 g_fuel (0 : Int32) v aside _ _ _ hw (lv_sub hl [1, 2, 3, 0] rfl) h
set_option maxRecDepth 100000 in
set_option maxHeartbeats 4000000 in
theorem c_X11_brings (l : Launch) (D : va_G) (g : Nat → ClassId) (a : Nat → Nat) (o : Nat) (pasts : Int32) (length : Int32) (printed : Int32) (told : Int32) (state : Int64) (backX : Int32) (backY : Int32) (boxes : Int32) (frees : Int32) (bestFree : Int32) (bestTurned : Int32) (bestFirst : Int32) (bestSecond : Int32) (v : (Nat → Int32)) (spare : (Nat → Int32)) (past : (Nat → Int32)) (kept : (Nat → Int32)) (isKept : (Nat → Int32)) (text : (Nat → Int32)) (paper : (Nat → Int32)) (left : (Nat → Int32)) (top : (Nat → Int32)) (wide : (Nat → Int32)) (high : (Nat → Int32)) (original : (Nat → Int32)) (turn : (Nat → Int32)) (boxX : (Nat → Int32)) (boxY : (Nat → Int32)) (boxW : (Nat → Int32)) (boxH : (Nat → Int32)) (freeAtX : (Nat → Int32)) (freeAtY : (Nat → Int32)) (freeW : (Nat → Int32)) (freeH : (Nat → Int32)) (begins : (Nat → Int32)) (ends : (Nat → Int32)) (tried : (Nat → Int32)) (aside : (Nat → Int32)) (u : (Nat → Int32)) (h : f_X11_brings v spare = some u) : b_Ct l yX11_brings cX11_brings 2 none 0 0 D g [.ref (a o)] [k_Model g a o pasts length printed told state backX backY boxes frees bestFree bestTurned bestFirst bestSecond v spare past kept isKept text paper left top wide high original turn boxX boxY boxW boxH freeAtX freeAtY freeW freeH begins ends tried aside] [k_Model g a o pasts length printed told state backX backY boxes frees bestFree bestTurned bestFirst bestSecond u spare past kept isKept text paper left top wide high original turn boxX boxY boxW boxH freeAtX freeAtY freeW freeH begins ends tried aside] none := by
  refine b_start RX11 (by decide) rfl (Nat.le_of_ble_eq_true rfl) rfl ?_
  intro p e s m args below meth c A ls Q hQ hx hb hr hlk hml hown hT hK hA hw hl
  have hl : lv_has ls 2 [(0, .ref (a o))] := hl
  unfold f_X11_brings at h
  refine lv_iconst (v := 0) hx hb dX11_brings_0 (by decide) ?_
  refine lv_istore_n (lv' := [(1, .int (0 : Int32)), (0, .ref (a o))]) hx hb dX11_brings_1 rfl hl (by decide) rfl (fun ls hl => ?_)
  have hL2 : ∀ (n : Nat) (x1 : Int32) (f2 : Nat → Int32) (H : Heap) (locs : List Loc) (ls : Array Slot), b_Wd D A s.heap H locs [k_Model g a o pasts length printed told state backX backY boxes frees bestFree bestTurned bestFirst bestSecond f2 spare past kept isKept text paper left top wide high original turn boxX boxY boxW boxH freeAtX freeAtY freeW freeH begins ends tried aside] → lv_has ls 2 [(0, .ref (a o)), (1, .int x1)] → f_X11_brings_L2 spare n x1 f2 = some u → W p l e (g_rm 0 0) s m args below meth c H locs 0 0 Q (F0 m 2 ls []) := by
    intro n
    induction n with
    | zero =>
      intro x1 f2 H locs ls hw hl h
      cases (show none = some u from h)
    | succ n ih2 =>
      intro x1 f2 H locs ls hw hl h
      rw [f_X11_brings_L2] at h
      refine lv_iload_n hx hb dX11_brings_2 rfl (lv_at hl 1 rfl) ?_
      refine lv_sipush (v := 1748) hx hb dX11_brings_3 (by decide) ?_
      refine lv_icmp_ge (tgt := 27) hx hb dX11_brings_6 (by decide) (fun hc6 => ?_) (fun hc6 => ?_)
      · rw [if_pos hc6] at h
        obtain rfl := Option.some.inj h
        exact b_vret hQ hx hb hr hlk hw rfl dX11_brings_27
      · rw [if_neg hc6] at h
        refine lv_aload_n hx hb dX11_brings_9 rfl (lv_at hl 0 rfl) ?_
        refine b_get hx hb hT hK hown fl_X11_7 hw 0 0 rfl rfl (v := .ref (a (o+1))) rfl dX11_brings_10 ?_
        refine lv_iload_n hx hb dX11_brings_13 rfl (lv_at hl 1 rfl) ?_
        refine lv_aload_n hx hb dX11_brings_14 rfl (lv_at hl 0 rfl) ?_
        refine b_get hx hb hT hK hown fl_X11_13 hw 0 0 rfl rfl (v := .ref (a (o+2))) rfl dX11_brings_15 ?_
        refine lv_iload_n hx hb dX11_brings_18 rfl (lv_at hl 1 rfl) ?_
        obtain ⟨x3, ex3, hix3, h⟩ := g_rd_some h
        refine b_iald hx hb hK hw 0 2 rfl (f := spare) rfl hix3 ex3 dX11_brings_19 ?_
        obtain ⟨f4, ef4, hif4, h⟩ := g_wr_some h
        refine b_iast hx hb hK hw 0 1 rfl (f := f2) rfl hif4 ef4 rfl (wb' := [k_Model g a o pasts length printed told state backX backY boxes frees bestFree bestTurned bestFirst bestSecond f4 spare past kept isKept text paper left top wide high original turn boxX boxY boxW boxH freeAtX freeAtY freeW freeH begins ends tried aside]) rfl dX11_brings_20 (fun H locs hw => ?_)
        obtain ⟨x5, ex5, h⟩ := g_bd_nm h
        refine lv_iinc (v := x5) (lv' := [(1, .int x5), (0, .ref (a o))]) hx hb dX11_brings_21 hl (k := 1) rfl (by rw [ex5]; rfl) (by decide) rfl (fun ls hl => ?_)
        refine lv_goto (tgt := 2) hx hb dX11_brings_24 (by decide) ?_
        exact ih2 x5 f4 _ _ _ hw (lv_sub hl [1, 0] rfl) h
  exact hL2 g_fuel (0 : Int32) v _ _ _ hw (lv_sub hl [1, 0] rfl) h
set_option maxRecDepth 100000 in
set_option maxHeartbeats 4000000 in
theorem c_X11_insert (l : Launch) (D : va_G) (g : Nat → ClassId) (a : Nat → Nat) (o : Nat) (pasts : Int32) (length : Int32) (printed : Int32) (told : Int32) (state : Int64) (backX : Int32) (backY : Int32) (boxes : Int32) (frees : Int32) (bestFree : Int32) (bestTurned : Int32) (bestFirst : Int32) (bestSecond : Int32) (v : (Nat → Int32)) (spare : (Nat → Int32)) (past : (Nat → Int32)) (kept : (Nat → Int32)) (isKept : (Nat → Int32)) (text : (Nat → Int32)) (paper : (Nat → Int32)) (left : (Nat → Int32)) (top : (Nat → Int32)) (wide : (Nat → Int32)) (high : (Nat → Int32)) (original : (Nat → Int32)) (turn : (Nat → Int32)) (boxX : (Nat → Int32)) (boxY : (Nat → Int32)) (boxW : (Nat → Int32)) (boxH : (Nat → Int32)) (freeAtX : (Nat → Int32)) (freeAtY : (Nat → Int32)) (freeW : (Nat → Int32)) (freeH : (Nat → Int32)) (begins : (Nat → Int32)) (ends : (Nat → Int32)) (tried : (Nat → Int32)) (aside : (Nat → Int32)) (i1 : Int32) (u : Int32 × Int32 × Int32 × Int32 × Int32 × Int32 × Int32 × Int32 × Int32 × Int32 × (Nat → Int32) × (Nat → Int32) × (Nat → Int32) × (Nat → Int32) × (Nat → Int32) × (Nat → Int32) × (Nat → Int32) × (Nat → Int32) × (Nat → Int32) × (Nat → Int32) × (Nat → Int32) × (Nat → Int32) × (Nat → Int32) × (Nat → Int32) × (Nat → Int32) × (Nat → Int32) × (Nat → Int32) × (Nat → Int32) × (Nat → Int32) × (Nat → Int32)) (h : f_X11_insert pasts backX backY boxes frees bestFree bestTurned bestFirst bestSecond v spare past left top wide high original turn boxX boxY boxW boxH freeAtX freeAtY freeW freeH begins ends aside i1 = some u) : b_Ct l yX11_insert cX11_insert 5 (some .int) 7 166 D g [.ref (a o), .int i1] [k_Model g a o pasts length printed told state backX backY boxes frees bestFree bestTurned bestFirst bestSecond v spare past kept isKept text paper left top wide high original turn boxX boxY boxW boxH freeAtX freeAtY freeW freeH begins ends tried aside] [k_Model g a o u.2.1 length printed told state u.2.2.1 u.2.2.2.1 u.2.2.2.2.1 u.2.2.2.2.2.1 u.2.2.2.2.2.2.1 u.2.2.2.2.2.2.2.1 u.2.2.2.2.2.2.2.2.1 u.2.2.2.2.2.2.2.2.2.1 u.2.2.2.2.2.2.2.2.2.2.1 u.2.2.2.2.2.2.2.2.2.2.2.1 u.2.2.2.2.2.2.2.2.2.2.2.2.1 kept isKept text paper u.2.2.2.2.2.2.2.2.2.2.2.2.2.1 u.2.2.2.2.2.2.2.2.2.2.2.2.2.2.1 u.2.2.2.2.2.2.2.2.2.2.2.2.2.2.2.1 u.2.2.2.2.2.2.2.2.2.2.2.2.2.2.2.2.1 u.2.2.2.2.2.2.2.2.2.2.2.2.2.2.2.2.2.1 u.2.2.2.2.2.2.2.2.2.2.2.2.2.2.2.2.2.2.1 u.2.2.2.2.2.2.2.2.2.2.2.2.2.2.2.2.2.2.2.1 u.2.2.2.2.2.2.2.2.2.2.2.2.2.2.2.2.2.2.2.2.1 u.2.2.2.2.2.2.2.2.2.2.2.2.2.2.2.2.2.2.2.2.2.1 u.2.2.2.2.2.2.2.2.2.2.2.2.2.2.2.2.2.2.2.2.2.2.1 u.2.2.2.2.2.2.2.2.2.2.2.2.2.2.2.2.2.2.2.2.2.2.2.1 u.2.2.2.2.2.2.2.2.2.2.2.2.2.2.2.2.2.2.2.2.2.2.2.2.1 u.2.2.2.2.2.2.2.2.2.2.2.2.2.2.2.2.2.2.2.2.2.2.2.2.2.1 u.2.2.2.2.2.2.2.2.2.2.2.2.2.2.2.2.2.2.2.2.2.2.2.2.2.2.1 u.2.2.2.2.2.2.2.2.2.2.2.2.2.2.2.2.2.2.2.2.2.2.2.2.2.2.2.1 u.2.2.2.2.2.2.2.2.2.2.2.2.2.2.2.2.2.2.2.2.2.2.2.2.2.2.2.2.1 tried u.2.2.2.2.2.2.2.2.2.2.2.2.2.2.2.2.2.2.2.2.2.2.2.2.2.2.2.2.2] (some (.int u.1)) := by
  refine b_start RX11 (by decide) rfl (Nat.le_of_ble_eq_true rfl) rfl ?_
  intro p e s m args below meth c A ls Q hQ hx hb hr hlk hml hown hT hK hA hw hl
  have hl : lv_has ls 5 [(0, .ref (a o)), (1, .int i1)] := hl
  unfold f_X11_insert at h
  refine lv_aload_n hx hb dX11_insert_0 rfl (lv_at hl 0 rfl) ?_
  refine lv_iload_n hx hb dX11_insert_1 rfl (lv_at hl 1 rfl) ?_
  obtain ⟨r1, er1, h⟩ := g_cl_some h
  refine b_callV hx hb hml hown hT hK hA hw mk_X11_138 (c_X11_isSprite l D g a o pasts length printed told state backX backY boxes frees bestFree bestTurned bestFirst bestSecond v spare past kept isKept text paper left top wide high original turn boxX boxY boxW boxH freeAtX freeAtY freeW freeH begins ends tried aside i1 r1 er1) [0] [] rfl (by decide) 0 0 rfl rfl rfl rfl hl.1 [] rfl (Nat.le_of_ble_eq_true rfl) ⟨Nat.le_of_ble_eq_true rfl, Nat.le_of_ble_eq_true rfl⟩ ⟨Nat.zero_le _, Nat.zero_le _⟩ dX11_insert_2 (wb' := [k_Model g a o pasts length printed told state backX backY boxes frees bestFree bestTurned bestFirst bestSecond v spare past kept isKept text paper left top wide high original turn boxX boxY boxW boxH freeAtX freeAtY freeW freeH begins ends tried aside]) rfl b_e0 1 rfl (by decide) (st2 := [.int r1]) rfl (fun H locs hw => ?_)
  refine lv_if_ne (tgt := 10) hx hb dX11_insert_5 (by decide) (fun hc5 => ?_) (fun hc5 => ?_)
  · rw [if_neg hc5] at h
    refine lv_aload_n hx hb dX11_insert_10 rfl (lv_at hl 0 rfl) ?_
    obtain ⟨r2, er2, h⟩ := g_cl_some h
    refine b_callV hx hb hml hown hT hK hA hw mk_X11_176 (c_X11_knows l D g a o pasts length printed told state backX backY boxes frees bestFree bestTurned bestFirst bestSecond v spare past kept isKept text paper left top wide high original turn boxX boxY boxW boxH freeAtX freeAtY freeW freeH begins ends tried aside r2 er2) [0] [] rfl (by decide) 0 0 rfl rfl rfl rfl hl.1 [] rfl (Nat.le_of_ble_eq_true rfl) ⟨Nat.le_of_ble_eq_true rfl, Nat.le_of_ble_eq_true rfl⟩ ⟨Nat.zero_le _, Nat.zero_le _⟩ dX11_insert_11 (wb' := [k_Model g a o pasts length printed told state r2.1 r2.2.1 boxes frees bestFree bestTurned bestFirst bestSecond v spare past kept isKept text paper r2.2.2.1 r2.2.2.2.1 r2.2.2.2.2.1 r2.2.2.2.2.2.1 r2.2.2.2.2.2.2.1 r2.2.2.2.2.2.2.2 boxX boxY boxW boxH freeAtX freeAtY freeW freeH begins ends tried aside]) rfl b_e0 1 rfl (by decide) (st2 := []) rfl (fun H locs hw => ?_)
    refine lv_aload_n hx hb dX11_insert_14 rfl (lv_at hl 0 rfl) ?_
    refine lv_iload_n hx hb dX11_insert_15 rfl (lv_at hl 1 rfl) ?_
    obtain ⟨r3, er3, h⟩ := g_cl_some h
    refine b_callV hx hb hml hown hT hK hA hw mk_X11_248 (c_X11_isOriginal l D g a o pasts length printed told state r2.1 r2.2.1 boxes frees bestFree bestTurned bestFirst bestSecond v spare past kept isKept text paper r2.2.2.1 r2.2.2.2.1 r2.2.2.2.2.1 r2.2.2.2.2.2.1 r2.2.2.2.2.2.2.1 r2.2.2.2.2.2.2.2 boxX boxY boxW boxH freeAtX freeAtY freeW freeH begins ends tried aside i1 r3 er3) [0] [] rfl (by decide) 0 0 rfl rfl rfl rfl hl.1 [] rfl (Nat.le_of_ble_eq_true rfl) ⟨Nat.le_of_ble_eq_true rfl, Nat.le_of_ble_eq_true rfl⟩ ⟨Nat.zero_le _, Nat.zero_le _⟩ dX11_insert_16 (wb' := [k_Model g a o pasts length printed told state r2.1 r2.2.1 boxes frees bestFree bestTurned bestFirst bestSecond v spare past kept isKept text paper r2.2.2.1 r2.2.2.2.1 r2.2.2.2.2.1 r2.2.2.2.2.2.1 r2.2.2.2.2.2.2.1 r2.2.2.2.2.2.2.2 boxX boxY boxW boxH freeAtX freeAtY freeW freeH begins ends tried aside]) rfl b_e0 1 rfl (by decide) (st2 := [.int r3]) rfl (fun H locs hw => ?_)
    refine lv_if_eq (tgt := 35) hx hb dX11_insert_19 (by decide) (fun hc19 => ?_) (fun hc19 => ?_)
    · rw [if_pos hc19] at h
      refine lv_bipush (v := -3) hx hb dX11_insert_35 (by decide) ?_
      obtain rfl := Option.some.inj h
      exact b_iret hQ hx hb hr hlk hw rfl dX11_insert_37
    · rw [if_neg hc19] at h
      refine lv_aload_n hx hb dX11_insert_22 rfl (lv_at hl 0 rfl) ?_
      refine b_get hx hb hT hK hown fl_X11_7 hw 0 0 rfl rfl (v := .ref (a (o+1))) rfl dX11_insert_23 ?_
      refine lv_iload_n hx hb dX11_insert_26 rfl (lv_at hl 1 rfl) ?_
      refine lv_iconst (v := 3) hx hb dX11_insert_27 (by decide) ?_
      refine b_callS hx hb hml hown hT hK hA hw mk_X11_94 (c_X11_at l D g i1 (3 : Int32)) [] [0] rfl (by decide) rfl hl.1 [.ref (a (o+1))] rfl (Nat.le_of_ble_eq_true rfl) ⟨Nat.le_of_ble_eq_true rfl, Nat.le_of_ble_eq_true rfl⟩ ⟨Nat.zero_le _, Nat.zero_le _⟩ dX11_insert_28 (wb' := [k_Model g a o pasts length printed told state r2.1 r2.2.1 boxes frees bestFree bestTurned bestFirst bestSecond v spare past kept isKept text paper r2.2.2.1 r2.2.2.2.1 r2.2.2.2.2.1 r2.2.2.2.2.2.1 r2.2.2.2.2.2.2.1 r2.2.2.2.2.2.2.2 boxX boxY boxW boxH freeAtX freeAtY freeW freeH begins ends tried aside]) rfl (b_e1 rfl b_e0) 1 rfl (by decide) (st2 := [.int (f_X11_at i1 (3 : Int32)), .ref (a (o+1))]) rfl (fun H locs hw => ?_)
      obtain ⟨x4, ex4, hix4, h⟩ := g_rd_some h
      refine b_iald hx hb hK hw 0 1 rfl (f := v) rfl hix4 ex4 dX11_insert_31 ?_
      refine lv_if_lt (tgt := 38) hx hb dX11_insert_32 (by decide) (fun hc32 => ?_) (fun hc32 => ?_)
      · rw [if_pos hc32] at h
        refine lv_aload_n hx hb dX11_insert_38 rfl (lv_at hl 0 rfl) ?_
        obtain ⟨r5, er5, h⟩ := g_cl_some h
        refine b_callV hx hb hml hown hT hK hA hw mk_X11_260 (c_X11_keeps l D g a o pasts length printed told state r2.1 r2.2.1 boxes frees bestFree bestTurned bestFirst bestSecond v spare past kept isKept text paper r2.2.2.1 r2.2.2.2.1 r2.2.2.2.2.1 r2.2.2.2.2.2.1 r2.2.2.2.2.2.2.1 r2.2.2.2.2.2.2.2 boxX boxY boxW boxH freeAtX freeAtY freeW freeH begins ends tried aside r5 er5) [0] [] rfl (by decide) 0 0 rfl rfl rfl rfl hl.1 [] rfl (Nat.le_of_ble_eq_true rfl) ⟨Nat.le_of_ble_eq_true rfl, Nat.le_of_ble_eq_true rfl⟩ ⟨Nat.zero_le _, Nat.zero_le _⟩ dX11_insert_39 (wb' := [k_Model g a o pasts length printed told state r2.1 r2.2.1 boxes frees bestFree bestTurned bestFirst bestSecond v r5 past kept isKept text paper r2.2.2.1 r2.2.2.2.1 r2.2.2.2.2.1 r2.2.2.2.2.2.1 r2.2.2.2.2.2.2.1 r2.2.2.2.2.2.2.2 boxX boxY boxW boxH freeAtX freeAtY freeW freeH begins ends tried aside]) rfl b_e0 1 rfl (by decide) (st2 := []) rfl (fun H locs hw => ?_)
        refine lv_aload_n hx hb dX11_insert_42 rfl (lv_at hl 0 rfl) ?_
        refine lv_iload_n hx hb dX11_insert_43 rfl (lv_at hl 1 rfl) ?_
        obtain ⟨r6, er6, h⟩ := g_cl_some h
        refine b_callV hx hb hml hown hT hK hA hw mk_X11_254 (c_X11_places l D g a o pasts length printed told state r2.1 r2.2.1 boxes frees bestFree bestTurned bestFirst bestSecond v r5 past kept isKept text paper r2.2.2.1 r2.2.2.2.1 r2.2.2.2.2.1 r2.2.2.2.2.2.1 r2.2.2.2.2.2.2.1 r2.2.2.2.2.2.2.2 boxX boxY boxW boxH freeAtX freeAtY freeW freeH begins ends tried aside i1 r6 er6) [0] [] rfl (by decide) 0 0 rfl rfl rfl rfl hl.1 [] rfl (Nat.le_of_ble_eq_true rfl) ⟨Nat.le_of_ble_eq_true rfl, Nat.le_of_ble_eq_true rfl⟩ ⟨Nat.zero_le _, Nat.zero_le _⟩ dX11_insert_44 (wb' := [k_Model g a o pasts length printed told state r2.1 r2.2.1 r6.2.1 r6.2.2.1 r6.2.2.2.1 r6.2.2.2.2.1 r6.2.2.2.2.2.1 r6.2.2.2.2.2.2.1 r6.2.2.2.2.2.2.2.1 r5 past kept isKept text paper r2.2.2.1 r2.2.2.2.1 r2.2.2.2.2.1 r2.2.2.2.2.2.1 r2.2.2.2.2.2.2.1 r2.2.2.2.2.2.2.2 r6.2.2.2.2.2.2.2.2.1 r6.2.2.2.2.2.2.2.2.2.1 r6.2.2.2.2.2.2.2.2.2.2.1 r6.2.2.2.2.2.2.2.2.2.2.2.1 r6.2.2.2.2.2.2.2.2.2.2.2.2.1 r6.2.2.2.2.2.2.2.2.2.2.2.2.2.1 r6.2.2.2.2.2.2.2.2.2.2.2.2.2.2.1 r6.2.2.2.2.2.2.2.2.2.2.2.2.2.2.2.1 r6.2.2.2.2.2.2.2.2.2.2.2.2.2.2.2.2.1 r6.2.2.2.2.2.2.2.2.2.2.2.2.2.2.2.2.2 tried aside]) rfl b_e0 1 rfl (by decide) (st2 := [.int r6.1]) rfl (fun H locs hw => ?_)
        refine lv_if_ne (tgt := 53) hx hb dX11_insert_47 (by decide) (fun hc47 => ?_) (fun hc47 => ?_)
        · rw [if_neg hc47] at h
          refine lv_aload_n hx hb dX11_insert_53 rfl (lv_at hl 0 rfl) ?_
          refine b_get hx hb hT hK hown fl_X11_7 hw 0 0 rfl rfl (v := .ref (a (o+1))) rfl dX11_insert_54 ?_
          refine lv_iload_n hx hb dX11_insert_57 rfl (lv_at hl 1 rfl) ?_
          refine lv_iconst (v := 3) hx hb dX11_insert_58 (by decide) ?_
          refine b_callS hx hb hml hown hT hK hA hw mk_X11_94 (c_X11_at l D g i1 (3 : Int32)) [] [0] rfl (by decide) rfl hl.1 [.ref (a (o+1))] rfl (Nat.le_of_ble_eq_true rfl) ⟨Nat.le_of_ble_eq_true rfl, Nat.le_of_ble_eq_true rfl⟩ ⟨Nat.zero_le _, Nat.zero_le _⟩ dX11_insert_59 (wb' := [k_Model g a o pasts length printed told state r2.1 r2.2.1 r6.2.1 r6.2.2.1 r6.2.2.2.1 r6.2.2.2.2.1 r6.2.2.2.2.2.1 r6.2.2.2.2.2.2.1 r6.2.2.2.2.2.2.2.1 r5 past kept isKept text paper r2.2.2.1 r2.2.2.2.1 r2.2.2.2.2.1 r2.2.2.2.2.2.1 r2.2.2.2.2.2.2.1 r2.2.2.2.2.2.2.2 r6.2.2.2.2.2.2.2.2.1 r6.2.2.2.2.2.2.2.2.2.1 r6.2.2.2.2.2.2.2.2.2.2.1 r6.2.2.2.2.2.2.2.2.2.2.2.1 r6.2.2.2.2.2.2.2.2.2.2.2.2.1 r6.2.2.2.2.2.2.2.2.2.2.2.2.2.1 r6.2.2.2.2.2.2.2.2.2.2.2.2.2.2.1 r6.2.2.2.2.2.2.2.2.2.2.2.2.2.2.2.1 r6.2.2.2.2.2.2.2.2.2.2.2.2.2.2.2.2.1 r6.2.2.2.2.2.2.2.2.2.2.2.2.2.2.2.2.2 tried aside]) rfl (b_e1 rfl b_e0) 1 rfl (by decide) (st2 := [.int (f_X11_at i1 (3 : Int32)), .ref (a (o+1))]) rfl (fun H locs hw => ?_)
          obtain ⟨x7, ex7, hix7, h⟩ := g_rd_some h
          refine b_iald hx hb hK hw 0 1 rfl (f := r6.2.2.2.2.2.2.2.1) rfl hix7 ex7 dX11_insert_62 ?_
          refine lv_istore_n (lv' := [(2, .int x7), (0, .ref (a o)), (1, .int i1)]) hx hb dX11_insert_63 rfl hl (by decide) rfl (fun ls hl => ?_)
          refine lv_aload_n hx hb dX11_insert_64 rfl (lv_at hl 1 rfl) ?_
          refine b_get hx hb hT hK hown fl_X11_7 hw 0 0 rfl rfl (v := .ref (a (o+1))) rfl dX11_insert_65 ?_
          refine lv_bipush (v := 13) hx hb dX11_insert_68 (by decide) ?_
          obtain ⟨x8, ex8, hix8, h⟩ := g_rd_some h
          refine b_iald hx hb hK hw 0 1 rfl (f := r6.2.2.2.2.2.2.2.1) rfl hix8 ex8 dX11_insert_70 ?_
          refine lv_istore_n (lv' := [(3, .int x8), (2, .int x7), (0, .ref (a o)), (1, .int i1)]) hx hb dX11_insert_71 rfl hl (by decide) rfl (fun ls hl => ?_)
          refine lv_aload_n hx hb dX11_insert_72 rfl (lv_at hl 2 rfl) ?_
          refine b_get hx hb hT hK hown fl_X11_7 hw 0 0 rfl rfl (v := .ref (a (o+1))) rfl dX11_insert_73 ?_
          refine lv_bipush (v := 14) hx hb dX11_insert_76 (by decide) ?_
          refine lv_iload_n hx hb dX11_insert_78 rfl (lv_at hl 1 rfl) ?_
          refine lv_iadd hx hb dX11_insert_79 ?_
          obtain ⟨x9, ex9, hix9, h⟩ := g_rd_some h
          refine b_iald hx hb hK hw 0 1 rfl (f := r6.2.2.2.2.2.2.2.1) rfl hix9 ex9 dX11_insert_80 ?_
          refine lv_istore (lv' := [(4, .int x9), (3, .int x8), (2, .int x7), (0, .ref (a o)), (1, .int i1)]) hx hb dX11_insert_81 hl (by decide) rfl (fun ls hl => ?_)
          refine lv_aload_n hx hb dX11_insert_83 rfl (lv_at hl 3 rfl) ?_
          refine lv_iload_n hx hb dX11_insert_84 rfl (lv_at hl 4 rfl) ?_
          refine lv_iconst (v := 1) hx hb dX11_insert_85 (by decide) ?_
          obtain ⟨r10, er10, h⟩ := g_cl_some h
          refine b_callV hx hb hml hown hT hK hA hw mk_X11_263 (c_X11_copies l D g a o pasts length printed told state r2.1 r2.2.1 r6.2.1 r6.2.2.1 r6.2.2.2.1 r6.2.2.2.2.1 r6.2.2.2.2.2.1 r6.2.2.2.2.2.2.1 r6.2.2.2.2.2.2.2.1 r5 past kept isKept text paper r2.2.2.1 r2.2.2.2.1 r2.2.2.2.2.1 r2.2.2.2.2.2.1 r2.2.2.2.2.2.2.1 r2.2.2.2.2.2.2.2 r6.2.2.2.2.2.2.2.2.1 r6.2.2.2.2.2.2.2.2.2.1 r6.2.2.2.2.2.2.2.2.2.2.1 r6.2.2.2.2.2.2.2.2.2.2.2.1 r6.2.2.2.2.2.2.2.2.2.2.2.2.1 r6.2.2.2.2.2.2.2.2.2.2.2.2.2.1 r6.2.2.2.2.2.2.2.2.2.2.2.2.2.2.1 r6.2.2.2.2.2.2.2.2.2.2.2.2.2.2.2.1 r6.2.2.2.2.2.2.2.2.2.2.2.2.2.2.2.2.1 r6.2.2.2.2.2.2.2.2.2.2.2.2.2.2.2.2.2 tried aside i1 (1 : Int32) r10 er10) [0] [] rfl (by decide) 0 0 rfl rfl rfl rfl hl.1 [] rfl (Nat.le_of_ble_eq_true rfl) ⟨Nat.le_of_ble_eq_true rfl, Nat.le_of_ble_eq_true rfl⟩ ⟨Nat.zero_le _, Nat.zero_le _⟩ dX11_insert_86 (wb' := [k_Model g a o pasts length printed told state r2.1 r2.2.1 r6.2.1 r6.2.2.1 r6.2.2.2.1 r6.2.2.2.2.1 r6.2.2.2.2.2.1 r6.2.2.2.2.2.2.1 r10.1 r5 past kept isKept text paper r2.2.2.1 r2.2.2.2.1 r2.2.2.2.2.1 r2.2.2.2.2.2.1 r2.2.2.2.2.2.2.1 r2.2.2.2.2.2.2.2 r6.2.2.2.2.2.2.2.2.1 r6.2.2.2.2.2.2.2.2.2.1 r6.2.2.2.2.2.2.2.2.2.2.1 r6.2.2.2.2.2.2.2.2.2.2.2.1 r6.2.2.2.2.2.2.2.2.2.2.2.2.1 r6.2.2.2.2.2.2.2.2.2.2.2.2.2.1 r6.2.2.2.2.2.2.2.2.2.2.2.2.2.2.1 r6.2.2.2.2.2.2.2.2.2.2.2.2.2.2.2.1 r6.2.2.2.2.2.2.2.2.2.2.2.2.2.2.2.2.1 r6.2.2.2.2.2.2.2.2.2.2.2.2.2.2.2.2.2 tried r10.2]) rfl b_e0 1 rfl (by decide) (st2 := []) rfl (fun H locs hw => ?_)
          refine lv_aload_n hx hb dX11_insert_89 rfl (lv_at hl 3 rfl) ?_
          obtain ⟨r11, er11, h⟩ := g_cl_some h
          refine b_callV hx hb hml hown hT hK hA hw mk_X11_267 (c_X11_brings l D g a o pasts length printed told state r2.1 r2.2.1 r6.2.1 r6.2.2.1 r6.2.2.2.1 r6.2.2.2.2.1 r6.2.2.2.2.2.1 r6.2.2.2.2.2.2.1 r10.1 r5 past kept isKept text paper r2.2.2.1 r2.2.2.2.1 r2.2.2.2.2.1 r2.2.2.2.2.2.1 r2.2.2.2.2.2.2.1 r2.2.2.2.2.2.2.2 r6.2.2.2.2.2.2.2.2.1 r6.2.2.2.2.2.2.2.2.2.1 r6.2.2.2.2.2.2.2.2.2.2.1 r6.2.2.2.2.2.2.2.2.2.2.2.1 r6.2.2.2.2.2.2.2.2.2.2.2.2.1 r6.2.2.2.2.2.2.2.2.2.2.2.2.2.1 r6.2.2.2.2.2.2.2.2.2.2.2.2.2.2.1 r6.2.2.2.2.2.2.2.2.2.2.2.2.2.2.2.1 r6.2.2.2.2.2.2.2.2.2.2.2.2.2.2.2.2.1 r6.2.2.2.2.2.2.2.2.2.2.2.2.2.2.2.2.2 tried r10.2 r11 er11) [0] [] rfl (by decide) 0 0 rfl rfl rfl rfl hl.1 [] rfl (Nat.le_of_ble_eq_true rfl) ⟨Nat.le_of_ble_eq_true rfl, Nat.le_of_ble_eq_true rfl⟩ ⟨Nat.zero_le _, Nat.zero_le _⟩ dX11_insert_90 (wb' := [k_Model g a o pasts length printed told state r2.1 r2.2.1 r6.2.1 r6.2.2.1 r6.2.2.2.1 r6.2.2.2.2.1 r6.2.2.2.2.2.1 r6.2.2.2.2.2.2.1 r11 r5 past kept isKept text paper r2.2.2.1 r2.2.2.2.1 r2.2.2.2.2.1 r2.2.2.2.2.2.1 r2.2.2.2.2.2.2.1 r2.2.2.2.2.2.2.2 r6.2.2.2.2.2.2.2.2.1 r6.2.2.2.2.2.2.2.2.2.1 r6.2.2.2.2.2.2.2.2.2.2.1 r6.2.2.2.2.2.2.2.2.2.2.2.1 r6.2.2.2.2.2.2.2.2.2.2.2.2.1 r6.2.2.2.2.2.2.2.2.2.2.2.2.2.1 r6.2.2.2.2.2.2.2.2.2.2.2.2.2.2.1 r6.2.2.2.2.2.2.2.2.2.2.2.2.2.2.2.1 r6.2.2.2.2.2.2.2.2.2.2.2.2.2.2.2.2.1 r6.2.2.2.2.2.2.2.2.2.2.2.2.2.2.2.2.2 tried r10.2]) rfl b_e0 1 rfl (by decide) (st2 := []) rfl (fun H locs hw => ?_)
          refine lv_aload_n hx hb dX11_insert_93 rfl (lv_at hl 3 rfl) ?_
          obtain ⟨r12, er12, h⟩ := g_cl_some h
          refine b_callV hx hb hml hown hT hK hA hw mk_X11_98 (c_X11_notes l D g a o pasts length printed told state r2.1 r2.2.1 r6.2.1 r6.2.2.1 r6.2.2.2.1 r6.2.2.2.2.1 r6.2.2.2.2.2.1 r6.2.2.2.2.2.2.1 r11 r5 past kept isKept text paper r2.2.2.1 r2.2.2.2.1 r2.2.2.2.2.1 r2.2.2.2.2.2.1 r2.2.2.2.2.2.2.1 r2.2.2.2.2.2.2.2 r6.2.2.2.2.2.2.2.2.1 r6.2.2.2.2.2.2.2.2.2.1 r6.2.2.2.2.2.2.2.2.2.2.1 r6.2.2.2.2.2.2.2.2.2.2.2.1 r6.2.2.2.2.2.2.2.2.2.2.2.2.1 r6.2.2.2.2.2.2.2.2.2.2.2.2.2.1 r6.2.2.2.2.2.2.2.2.2.2.2.2.2.2.1 r6.2.2.2.2.2.2.2.2.2.2.2.2.2.2.2.1 r6.2.2.2.2.2.2.2.2.2.2.2.2.2.2.2.2.1 r6.2.2.2.2.2.2.2.2.2.2.2.2.2.2.2.2.2 tried r10.2 r12 er12) [0] [] rfl (by decide) 0 0 rfl rfl rfl rfl hl.1 [] rfl (Nat.le_of_ble_eq_true rfl) ⟨Nat.le_of_ble_eq_true rfl, Nat.le_of_ble_eq_true rfl⟩ ⟨Nat.zero_le _, Nat.zero_le _⟩ dX11_insert_94 (wb' := [k_Model g a o r12.1 length printed told state r2.1 r2.2.1 r6.2.1 r6.2.2.1 r6.2.2.2.1 r6.2.2.2.2.1 r6.2.2.2.2.2.1 r6.2.2.2.2.2.2.1 r11 r5 r12.2 kept isKept text paper r2.2.2.1 r2.2.2.2.1 r2.2.2.2.2.1 r2.2.2.2.2.2.1 r2.2.2.2.2.2.2.1 r2.2.2.2.2.2.2.2 r6.2.2.2.2.2.2.2.2.1 r6.2.2.2.2.2.2.2.2.2.1 r6.2.2.2.2.2.2.2.2.2.2.1 r6.2.2.2.2.2.2.2.2.2.2.2.1 r6.2.2.2.2.2.2.2.2.2.2.2.2.1 r6.2.2.2.2.2.2.2.2.2.2.2.2.2.1 r6.2.2.2.2.2.2.2.2.2.2.2.2.2.2.1 r6.2.2.2.2.2.2.2.2.2.2.2.2.2.2.2.1 r6.2.2.2.2.2.2.2.2.2.2.2.2.2.2.2.2.1 r6.2.2.2.2.2.2.2.2.2.2.2.2.2.2.2.2.2 tried r10.2]) rfl b_e0 1 rfl (by decide) (st2 := []) rfl (fun H locs hw => ?_)
          refine lv_aload_n hx hb dX11_insert_97 rfl (lv_at hl 3 rfl) ?_
          refine b_get hx hb hT hK hown fl_X11_7 hw 0 0 rfl rfl (v := .ref (a (o+1))) rfl dX11_insert_98 ?_
          refine lv_bipush (v := 13) hx hb dX11_insert_101 (by decide) ?_
          refine lv_iload_n hx hb dX11_insert_103 rfl (lv_at hl 1 rfl) ?_
          obtain ⟨f13, ef13, hif13, h⟩ := g_wr_some h
          refine b_iast hx hb hK hw 0 1 rfl (f := r11) rfl hif13 ef13 rfl (wb' := [k_Model g a o r12.1 length printed told state r2.1 r2.2.1 r6.2.1 r6.2.2.1 r6.2.2.2.1 r6.2.2.2.2.1 r6.2.2.2.2.2.1 r6.2.2.2.2.2.2.1 f13 r5 r12.2 kept isKept text paper r2.2.2.1 r2.2.2.2.1 r2.2.2.2.2.1 r2.2.2.2.2.2.1 r2.2.2.2.2.2.2.1 r2.2.2.2.2.2.2.2 r6.2.2.2.2.2.2.2.2.1 r6.2.2.2.2.2.2.2.2.2.1 r6.2.2.2.2.2.2.2.2.2.2.1 r6.2.2.2.2.2.2.2.2.2.2.2.1 r6.2.2.2.2.2.2.2.2.2.2.2.2.1 r6.2.2.2.2.2.2.2.2.2.2.2.2.2.1 r6.2.2.2.2.2.2.2.2.2.2.2.2.2.2.1 r6.2.2.2.2.2.2.2.2.2.2.2.2.2.2.2.1 r6.2.2.2.2.2.2.2.2.2.2.2.2.2.2.2.2.1 r6.2.2.2.2.2.2.2.2.2.2.2.2.2.2.2.2.2 tried r10.2]) rfl dX11_insert_104 (fun H locs hw => ?_)
          refine lv_aload_n hx hb dX11_insert_105 rfl (lv_at hl 3 rfl) ?_
          refine b_get hx hb hT hK hown fl_X11_7 hw 0 0 rfl rfl (v := .ref (a (o+1))) rfl dX11_insert_106 ?_
          refine lv_bipush (v := 14) hx hb dX11_insert_109 (by decide) ?_
          refine lv_iload_n hx hb dX11_insert_111 rfl (lv_at hl 2 rfl) ?_
          refine lv_iadd hx hb dX11_insert_112 ?_
          refine lv_iload hx hb dX11_insert_113 (lv_at hl 0 rfl) ?_
          obtain ⟨f14, ef14, hif14, h⟩ := g_wr_some h
          refine b_iast hx hb hK hw 0 1 rfl (f := f13) rfl hif14 ef14 rfl (wb' := [k_Model g a o r12.1 length printed told state r2.1 r2.2.1 r6.2.1 r6.2.2.1 r6.2.2.2.1 r6.2.2.2.2.1 r6.2.2.2.2.2.1 r6.2.2.2.2.2.2.1 f14 r5 r12.2 kept isKept text paper r2.2.2.1 r2.2.2.2.1 r2.2.2.2.2.1 r2.2.2.2.2.2.1 r2.2.2.2.2.2.2.1 r2.2.2.2.2.2.2.2 r6.2.2.2.2.2.2.2.2.1 r6.2.2.2.2.2.2.2.2.2.1 r6.2.2.2.2.2.2.2.2.2.2.1 r6.2.2.2.2.2.2.2.2.2.2.2.1 r6.2.2.2.2.2.2.2.2.2.2.2.2.1 r6.2.2.2.2.2.2.2.2.2.2.2.2.2.1 r6.2.2.2.2.2.2.2.2.2.2.2.2.2.2.1 r6.2.2.2.2.2.2.2.2.2.2.2.2.2.2.2.1 r6.2.2.2.2.2.2.2.2.2.2.2.2.2.2.2.2.1 r6.2.2.2.2.2.2.2.2.2.2.2.2.2.2.2.2.2 tried r10.2]) rfl dX11_insert_115 (fun H locs hw => ?_)
          refine lv_aload_n hx hb dX11_insert_116 rfl (lv_at hl 3 rfl) ?_
          refine lv_iload_n hx hb dX11_insert_117 rfl (lv_at hl 4 rfl) ?_
          refine lv_iconst (v := 0) hx hb dX11_insert_118 (by decide) ?_
          obtain ⟨r15, er15, h⟩ := g_cl_some h
          refine b_callV hx hb hml hown hT hK hA hw mk_X11_263 (c_X11_copies l D g a o r12.1 length printed told state r2.1 r2.2.1 r6.2.1 r6.2.2.1 r6.2.2.2.1 r6.2.2.2.2.1 r6.2.2.2.2.2.1 r6.2.2.2.2.2.2.1 f14 r5 r12.2 kept isKept text paper r2.2.2.1 r2.2.2.2.1 r2.2.2.2.2.1 r2.2.2.2.2.2.1 r2.2.2.2.2.2.2.1 r2.2.2.2.2.2.2.2 r6.2.2.2.2.2.2.2.2.1 r6.2.2.2.2.2.2.2.2.2.1 r6.2.2.2.2.2.2.2.2.2.2.1 r6.2.2.2.2.2.2.2.2.2.2.2.1 r6.2.2.2.2.2.2.2.2.2.2.2.2.1 r6.2.2.2.2.2.2.2.2.2.2.2.2.2.1 r6.2.2.2.2.2.2.2.2.2.2.2.2.2.2.1 r6.2.2.2.2.2.2.2.2.2.2.2.2.2.2.2.1 r6.2.2.2.2.2.2.2.2.2.2.2.2.2.2.2.2.1 r6.2.2.2.2.2.2.2.2.2.2.2.2.2.2.2.2.2 tried r10.2 i1 (0 : Int32) r15 er15) [0] [] rfl (by decide) 0 0 rfl rfl rfl rfl hl.1 [] rfl (Nat.le_of_ble_eq_true rfl) ⟨Nat.le_of_ble_eq_true rfl, Nat.le_of_ble_eq_true rfl⟩ ⟨Nat.zero_le _, Nat.zero_le _⟩ dX11_insert_119 (wb' := [k_Model g a o r12.1 length printed told state r2.1 r2.2.1 r6.2.1 r6.2.2.1 r6.2.2.2.1 r6.2.2.2.2.1 r6.2.2.2.2.2.1 r6.2.2.2.2.2.2.1 r15.1 r5 r12.2 kept isKept text paper r2.2.2.1 r2.2.2.2.1 r2.2.2.2.2.1 r2.2.2.2.2.2.1 r2.2.2.2.2.2.2.1 r2.2.2.2.2.2.2.2 r6.2.2.2.2.2.2.2.2.1 r6.2.2.2.2.2.2.2.2.2.1 r6.2.2.2.2.2.2.2.2.2.2.1 r6.2.2.2.2.2.2.2.2.2.2.2.1 r6.2.2.2.2.2.2.2.2.2.2.2.2.1 r6.2.2.2.2.2.2.2.2.2.2.2.2.2.1 r6.2.2.2.2.2.2.2.2.2.2.2.2.2.2.1 r6.2.2.2.2.2.2.2.2.2.2.2.2.2.2.2.1 r6.2.2.2.2.2.2.2.2.2.2.2.2.2.2.2.2.1 r6.2.2.2.2.2.2.2.2.2.2.2.2.2.2.2.2.2 tried r15.2]) rfl b_e0 1 rfl (by decide) (st2 := []) rfl (fun H locs hw => ?_)
          refine lv_iload_n hx hb dX11_insert_122 rfl (lv_at hl 2 rfl) ?_
          obtain rfl := Option.some.inj h
          exact b_iret hQ hx hb hr hlk hw rfl dX11_insert_123
        · rw [if_pos hc47] at h
          refine lv_bipush (v := -2) hx hb dX11_insert_50 (by decide) ?_
          obtain rfl := Option.some.inj h
          exact b_iret hQ hx hb hr hlk hw rfl dX11_insert_52
      · rw [if_neg hc32] at h
        refine lv_bipush (v := -3) hx hb dX11_insert_35 (by decide) ?_
        obtain rfl := Option.some.inj h
        exact b_iret hQ hx hb hr hlk hw rfl dX11_insert_37
  · rw [if_pos hc5] at h
    refine lv_iconst (v := -1) hx hb dX11_insert_8 (by decide) ?_
    obtain rfl := Option.some.inj h
    exact b_iret hQ hx hb hr hlk hw rfl dX11_insert_9
set_option maxRecDepth 100000 in
set_option maxHeartbeats 4000000 in
theorem c_X11_unplace (l : Launch) (D : va_G) (g : Nat → ClassId) (a : Nat → Nat) (o : Nat) (pasts : Int32) (length : Int32) (printed : Int32) (told : Int32) (state : Int64) (backX : Int32) (backY : Int32) (boxes : Int32) (frees : Int32) (bestFree : Int32) (bestTurned : Int32) (bestFirst : Int32) (bestSecond : Int32) (v : (Nat → Int32)) (spare : (Nat → Int32)) (past : (Nat → Int32)) (kept : (Nat → Int32)) (isKept : (Nat → Int32)) (text : (Nat → Int32)) (paper : (Nat → Int32)) (left : (Nat → Int32)) (top : (Nat → Int32)) (wide : (Nat → Int32)) (high : (Nat → Int32)) (original : (Nat → Int32)) (turn : (Nat → Int32)) (boxX : (Nat → Int32)) (boxY : (Nat → Int32)) (boxW : (Nat → Int32)) (boxH : (Nat → Int32)) (freeAtX : (Nat → Int32)) (freeAtY : (Nat → Int32)) (freeW : (Nat → Int32)) (freeH : (Nat → Int32)) (begins : (Nat → Int32)) (ends : (Nat → Int32)) (tried : (Nat → Int32)) (aside : (Nat → Int32)) (i1 : Int32) (u : Int32 × Int32 × Int32 × Int32 × (Nat → Int32) × (Nat → Int32) × (Nat → Int32) × (Nat → Int32) × (Nat → Int32) × (Nat → Int32) × (Nat → Int32) × (Nat → Int32)) (h : f_X11_unplace pasts backX backY v past left top wide high original turn i1 = some u) : b_Ct l yX11_unplace cX11_unplace 3 (some .int) 5 125 D g [.ref (a o), .int i1] [k_Model g a o pasts length printed told state backX backY boxes frees bestFree bestTurned bestFirst bestSecond v spare past kept isKept text paper left top wide high original turn boxX boxY boxW boxH freeAtX freeAtY freeW freeH begins ends tried aside] [k_Model g a o u.2.1 length printed told state u.2.2.1 u.2.2.2.1 boxes frees bestFree bestTurned bestFirst bestSecond u.2.2.2.2.1 spare u.2.2.2.2.2.1 kept isKept text paper u.2.2.2.2.2.2.1 u.2.2.2.2.2.2.2.1 u.2.2.2.2.2.2.2.2.1 u.2.2.2.2.2.2.2.2.2.1 u.2.2.2.2.2.2.2.2.2.2.1 u.2.2.2.2.2.2.2.2.2.2.2 boxX boxY boxW boxH freeAtX freeAtY freeW freeH begins ends tried aside] (some (.int u.1)) := by
  refine b_start RX11 (by decide) rfl (Nat.le_of_ble_eq_true rfl) rfl ?_
  intro p e s m args below meth c A ls Q hQ hx hb hr hlk hml hown hT hK hA hw hl
  have hl : lv_has ls 3 [(0, .ref (a o)), (1, .int i1)] := hl
  unfold f_X11_unplace at h
  refine lv_aload_n hx hb dX11_unplace_0 rfl (lv_at hl 0 rfl) ?_
  refine lv_iload_n hx hb dX11_unplace_1 rfl (lv_at hl 1 rfl) ?_
  obtain ⟨r1, er1, h⟩ := g_cl_some h
  refine b_callV hx hb hml hown hT hK hA hw mk_X11_138 (c_X11_isSprite l D g a o pasts length printed told state backX backY boxes frees bestFree bestTurned bestFirst bestSecond v spare past kept isKept text paper left top wide high original turn boxX boxY boxW boxH freeAtX freeAtY freeW freeH begins ends tried aside i1 r1 er1) [0] [] rfl (by decide) 0 0 rfl rfl rfl rfl hl.1 [] rfl (Nat.le_of_ble_eq_true rfl) ⟨Nat.le_of_ble_eq_true rfl, Nat.le_of_ble_eq_true rfl⟩ ⟨Nat.zero_le _, Nat.zero_le _⟩ dX11_unplace_2 (wb' := [k_Model g a o pasts length printed told state backX backY boxes frees bestFree bestTurned bestFirst bestSecond v spare past kept isKept text paper left top wide high original turn boxX boxY boxW boxH freeAtX freeAtY freeW freeH begins ends tried aside]) rfl b_e0 1 rfl (by decide) (st2 := [.int r1]) rfl (fun H locs hw => ?_)
  refine lv_if_ne (tgt := 10) hx hb dX11_unplace_5 (by decide) (fun hc5 => ?_) (fun hc5 => ?_)
  · rw [if_neg hc5] at h
    refine lv_aload_n hx hb dX11_unplace_10 rfl (lv_at hl 0 rfl) ?_
    obtain ⟨r2, er2, h⟩ := g_cl_some h
    refine b_callV hx hb hml hown hT hK hA hw mk_X11_176 (c_X11_knows l D g a o pasts length printed told state backX backY boxes frees bestFree bestTurned bestFirst bestSecond v spare past kept isKept text paper left top wide high original turn boxX boxY boxW boxH freeAtX freeAtY freeW freeH begins ends tried aside r2 er2) [0] [] rfl (by decide) 0 0 rfl rfl rfl rfl hl.1 [] rfl (Nat.le_of_ble_eq_true rfl) ⟨Nat.le_of_ble_eq_true rfl, Nat.le_of_ble_eq_true rfl⟩ ⟨Nat.zero_le _, Nat.zero_le _⟩ dX11_unplace_11 (wb' := [k_Model g a o pasts length printed told state r2.1 r2.2.1 boxes frees bestFree bestTurned bestFirst bestSecond v spare past kept isKept text paper r2.2.2.1 r2.2.2.2.1 r2.2.2.2.2.1 r2.2.2.2.2.2.1 r2.2.2.2.2.2.2.1 r2.2.2.2.2.2.2.2 boxX boxY boxW boxH freeAtX freeAtY freeW freeH begins ends tried aside]) rfl b_e0 1 rfl (by decide) (st2 := []) rfl (fun H locs hw => ?_)
    refine lv_aload_n hx hb dX11_unplace_14 rfl (lv_at hl 0 rfl) ?_
    refine b_get hx hb hT hK hown fl_X11_7 hw 0 0 rfl rfl (v := .ref (a (o+1))) rfl dX11_unplace_15 ?_
    refine lv_iload_n hx hb dX11_unplace_18 rfl (lv_at hl 1 rfl) ?_
    refine lv_iconst (v := 3) hx hb dX11_unplace_19 (by decide) ?_
    refine b_callS hx hb hml hown hT hK hA hw mk_X11_94 (c_X11_at l D g i1 (3 : Int32)) [] [0] rfl (by decide) rfl hl.1 [.ref (a (o+1))] rfl (Nat.le_of_ble_eq_true rfl) ⟨Nat.le_of_ble_eq_true rfl, Nat.le_of_ble_eq_true rfl⟩ ⟨Nat.zero_le _, Nat.zero_le _⟩ dX11_unplace_20 (wb' := [k_Model g a o pasts length printed told state r2.1 r2.2.1 boxes frees bestFree bestTurned bestFirst bestSecond v spare past kept isKept text paper r2.2.2.1 r2.2.2.2.1 r2.2.2.2.2.1 r2.2.2.2.2.2.1 r2.2.2.2.2.2.2.1 r2.2.2.2.2.2.2.2 boxX boxY boxW boxH freeAtX freeAtY freeW freeH begins ends tried aside]) rfl (b_e1 rfl b_e0) 1 rfl (by decide) (st2 := [.int (f_X11_at i1 (3 : Int32)), .ref (a (o+1))]) rfl (fun H locs hw => ?_)
    obtain ⟨x3, ex3, hix3, h⟩ := g_rd_some h
    refine b_iald hx hb hK hw 0 1 rfl (f := v) rfl hix3 ex3 dX11_unplace_23 ?_
    refine lv_istore_n (lv' := [(2, .int x3), (0, .ref (a o)), (1, .int i1)]) hx hb dX11_unplace_24 rfl hl (by decide) rfl (fun ls hl => ?_)
    refine lv_aload_n hx hb dX11_unplace_25 rfl (lv_at hl 1 rfl) ?_
    refine lv_iload_n hx hb dX11_unplace_26 rfl (lv_at hl 2 rfl) ?_
    obtain ⟨r4, er4, h⟩ := g_cl_some h
    refine b_callV hx hb hml hown hT hK hA hw mk_X11_248 (c_X11_isOriginal l D g a o pasts length printed told state r2.1 r2.2.1 boxes frees bestFree bestTurned bestFirst bestSecond v spare past kept isKept text paper r2.2.2.1 r2.2.2.2.1 r2.2.2.2.2.1 r2.2.2.2.2.2.1 r2.2.2.2.2.2.2.1 r2.2.2.2.2.2.2.2 boxX boxY boxW boxH freeAtX freeAtY freeW freeH begins ends tried aside i1 r4 er4) [0] [] rfl (by decide) 0 0 rfl rfl rfl rfl hl.1 [] rfl (Nat.le_of_ble_eq_true rfl) ⟨Nat.le_of_ble_eq_true rfl, Nat.le_of_ble_eq_true rfl⟩ ⟨Nat.zero_le _, Nat.zero_le _⟩ dX11_unplace_27 (wb' := [k_Model g a o pasts length printed told state r2.1 r2.2.1 boxes frees bestFree bestTurned bestFirst bestSecond v spare past kept isKept text paper r2.2.2.1 r2.2.2.2.1 r2.2.2.2.2.1 r2.2.2.2.2.2.1 r2.2.2.2.2.2.2.1 r2.2.2.2.2.2.2.2 boxX boxY boxW boxH freeAtX freeAtY freeW freeH begins ends tried aside]) rfl b_e0 1 rfl (by decide) (st2 := [.int r4]) rfl (fun H locs hw => ?_)
    refine lv_if_eq (tgt := 37) hx hb dX11_unplace_30 (by decide) (fun hc30 => ?_) (fun hc30 => ?_)
    · rw [if_pos hc30] at h
      refine lv_bipush (v := -3) hx hb dX11_unplace_37 (by decide) ?_
      obtain rfl := Option.some.inj h
      exact b_iret hQ hx hb hr hlk hw rfl dX11_unplace_39
    · rw [if_neg hc30] at h
      refine lv_iload_n hx hb dX11_unplace_33 rfl (lv_at hl 0 rfl) ?_
      refine lv_if_ge (tgt := 40) hx hb dX11_unplace_34 (by decide) (fun hc34 => ?_) (fun hc34 => ?_)
      · rw [if_pos hc34] at h
        refine lv_aload_n hx hb dX11_unplace_40 rfl (lv_at hl 1 rfl) ?_
        obtain ⟨r5, er5, h⟩ := g_cl_some h
        refine b_callV hx hb hml hown hT hK hA hw mk_X11_98 (c_X11_notes l D g a o pasts length printed told state r2.1 r2.2.1 boxes frees bestFree bestTurned bestFirst bestSecond v spare past kept isKept text paper r2.2.2.1 r2.2.2.2.1 r2.2.2.2.2.1 r2.2.2.2.2.2.1 r2.2.2.2.2.2.2.1 r2.2.2.2.2.2.2.2 boxX boxY boxW boxH freeAtX freeAtY freeW freeH begins ends tried aside r5 er5) [0] [] rfl (by decide) 0 0 rfl rfl rfl rfl hl.1 [] rfl (Nat.le_of_ble_eq_true rfl) ⟨Nat.le_of_ble_eq_true rfl, Nat.le_of_ble_eq_true rfl⟩ ⟨Nat.zero_le _, Nat.zero_le _⟩ dX11_unplace_41 (wb' := [k_Model g a o r5.1 length printed told state r2.1 r2.2.1 boxes frees bestFree bestTurned bestFirst bestSecond v spare r5.2 kept isKept text paper r2.2.2.1 r2.2.2.2.1 r2.2.2.2.2.1 r2.2.2.2.2.2.1 r2.2.2.2.2.2.2.1 r2.2.2.2.2.2.2.2 boxX boxY boxW boxH freeAtX freeAtY freeW freeH begins ends tried aside]) rfl b_e0 1 rfl (by decide) (st2 := []) rfl (fun H locs hw => ?_)
        refine lv_aload_n hx hb dX11_unplace_44 rfl (lv_at hl 1 rfl) ?_
        refine b_get hx hb hT hK hown fl_X11_7 hw 0 0 rfl rfl (v := .ref (a (o+1))) rfl dX11_unplace_45 ?_
        refine lv_iload_n hx hb dX11_unplace_48 rfl (lv_at hl 2 rfl) ?_
        refine lv_iconst (v := 3) hx hb dX11_unplace_49 (by decide) ?_
        refine b_callS hx hb hml hown hT hK hA hw mk_X11_94 (c_X11_at l D g i1 (3 : Int32)) [] [0] rfl (by decide) rfl hl.1 [.ref (a (o+1))] rfl (Nat.le_of_ble_eq_true rfl) ⟨Nat.le_of_ble_eq_true rfl, Nat.le_of_ble_eq_true rfl⟩ ⟨Nat.zero_le _, Nat.zero_le _⟩ dX11_unplace_50 (wb' := [k_Model g a o r5.1 length printed told state r2.1 r2.2.1 boxes frees bestFree bestTurned bestFirst bestSecond v spare r5.2 kept isKept text paper r2.2.2.1 r2.2.2.2.1 r2.2.2.2.2.1 r2.2.2.2.2.2.1 r2.2.2.2.2.2.2.1 r2.2.2.2.2.2.2.2 boxX boxY boxW boxH freeAtX freeAtY freeW freeH begins ends tried aside]) rfl (b_e1 rfl b_e0) 1 rfl (by decide) (st2 := [.int (f_X11_at i1 (3 : Int32)), .ref (a (o+1))]) rfl (fun H locs hw => ?_)
        refine lv_iconst (v := -1) hx hb dX11_unplace_53 (by decide) ?_
        obtain ⟨f6, ef6, hif6, h⟩ := g_wr_some h
        refine b_iast hx hb hK hw 0 1 rfl (f := v) rfl hif6 ef6 rfl (wb' := [k_Model g a o r5.1 length printed told state r2.1 r2.2.1 boxes frees bestFree bestTurned bestFirst bestSecond f6 spare r5.2 kept isKept text paper r2.2.2.1 r2.2.2.2.1 r2.2.2.2.2.1 r2.2.2.2.2.2.1 r2.2.2.2.2.2.2.1 r2.2.2.2.2.2.2.2 boxX boxY boxW boxH freeAtX freeAtY freeW freeH begins ends tried aside]) rfl dX11_unplace_54 (fun H locs hw => ?_)
        refine lv_iload_n hx hb dX11_unplace_55 rfl (lv_at hl 0 rfl) ?_
        obtain rfl := Option.some.inj h
        exact b_iret hQ hx hb hr hlk hw rfl dX11_unplace_56
      · rw [if_neg hc34] at h
        refine lv_bipush (v := -3) hx hb dX11_unplace_37 (by decide) ?_
        obtain rfl := Option.some.inj h
        exact b_iret hQ hx hb hr hlk hw rfl dX11_unplace_39
  · rw [if_pos hc5] at h
    refine lv_iconst (v := -1) hx hb dX11_unplace_8 (by decide) ?_
    obtain rfl := Option.some.inj h
    exact b_iret hQ hx hb hr hlk hw rfl dX11_unplace_9
set_option maxRecDepth 100000 in
set_option maxHeartbeats 4000000 in
theorem c_X11_holder (l : Launch) (D : va_G) (g : Nat → ClassId) (a : Nat → Nat) (o : Nat) (pasts : Int32) (length : Int32) (printed : Int32) (told : Int32) (state : Int64) (backX : Int32) (backY : Int32) (boxes : Int32) (frees : Int32) (bestFree : Int32) (bestTurned : Int32) (bestFirst : Int32) (bestSecond : Int32) (v : (Nat → Int32)) (spare : (Nat → Int32)) (past : (Nat → Int32)) (kept : (Nat → Int32)) (isKept : (Nat → Int32)) (text : (Nat → Int32)) (paper : (Nat → Int32)) (left : (Nat → Int32)) (top : (Nat → Int32)) (wide : (Nat → Int32)) (high : (Nat → Int32)) (original : (Nat → Int32)) (turn : (Nat → Int32)) (boxX : (Nat → Int32)) (boxY : (Nat → Int32)) (boxW : (Nat → Int32)) (boxH : (Nat → Int32)) (freeAtX : (Nat → Int32)) (freeAtY : (Nat → Int32)) (freeW : (Nat → Int32)) (freeH : (Nat → Int32)) (begins : (Nat → Int32)) (ends : (Nat → Int32)) (tried : (Nat → Int32)) (aside : (Nat → Int32)) (i1 : Int32) (u : Int32 × Int32 × Int32 × (Nat → Int32) × (Nat → Int32) × (Nat → Int32) × (Nat → Int32) × (Nat → Int32) × (Nat → Int32)) (h : f_X11_holder backX backY v left top wide high original turn i1 = some u) : b_Ct l yX11_holder cX11_holder 3 (some .int) 5 125 D g [.ref (a o), .int i1] [k_Model g a o pasts length printed told state backX backY boxes frees bestFree bestTurned bestFirst bestSecond v spare past kept isKept text paper left top wide high original turn boxX boxY boxW boxH freeAtX freeAtY freeW freeH begins ends tried aside] [k_Model g a o pasts length printed told state u.2.1 u.2.2.1 boxes frees bestFree bestTurned bestFirst bestSecond v spare past kept isKept text paper u.2.2.2.1 u.2.2.2.2.1 u.2.2.2.2.2.1 u.2.2.2.2.2.2.1 u.2.2.2.2.2.2.2.1 u.2.2.2.2.2.2.2.2 boxX boxY boxW boxH freeAtX freeAtY freeW freeH begins ends tried aside] (some (.int u.1)) := by
  refine b_start RX11 (by decide) rfl (Nat.le_of_ble_eq_true rfl) rfl ?_
  intro p e s m args below meth c A ls Q hQ hx hb hr hlk hml hown hT hK hA hw hl
  have hl : lv_has ls 3 [(0, .ref (a o)), (1, .int i1)] := hl
  unfold f_X11_holder at h
  refine lv_aload_n hx hb dX11_holder_0 rfl (lv_at hl 0 rfl) ?_
  obtain ⟨r1, er1, h⟩ := g_cl_some h
  refine b_callV hx hb hml hown hT hK hA hw mk_X11_176 (c_X11_knows l D g a o pasts length printed told state backX backY boxes frees bestFree bestTurned bestFirst bestSecond v spare past kept isKept text paper left top wide high original turn boxX boxY boxW boxH freeAtX freeAtY freeW freeH begins ends tried aside r1 er1) [0] [] rfl (by decide) 0 0 rfl rfl rfl rfl hl.1 [] rfl (Nat.le_of_ble_eq_true rfl) ⟨Nat.le_of_ble_eq_true rfl, Nat.le_of_ble_eq_true rfl⟩ ⟨Nat.zero_le _, Nat.zero_le _⟩ dX11_holder_1 (wb' := [k_Model g a o pasts length printed told state r1.1 r1.2.1 boxes frees bestFree bestTurned bestFirst bestSecond v spare past kept isKept text paper r1.2.2.1 r1.2.2.2.1 r1.2.2.2.2.1 r1.2.2.2.2.2.1 r1.2.2.2.2.2.2.1 r1.2.2.2.2.2.2.2 boxX boxY boxW boxH freeAtX freeAtY freeW freeH begins ends tried aside]) rfl b_e0 1 rfl (by decide) (st2 := []) rfl (fun H locs hw => ?_)
  refine lv_aload_n hx hb dX11_holder_4 rfl (lv_at hl 0 rfl) ?_
  refine b_get hx hb hT hK hown fl_X11_44 hw 0 0 rfl rfl (v := .ref (a (o+12))) rfl dX11_holder_5 ?_
  refine lv_iload_n hx hb dX11_holder_8 rfl (lv_at hl 1 rfl) ?_
  obtain ⟨x2, ex2, hix2, h⟩ := g_rd_some h
  refine b_iald hx hb hK hw 0 12 rfl (f := r1.2.2.2.2.2.2.1) rfl hix2 ex2 dX11_holder_9 ?_
  obtain ⟨j23_3, ej23_3, h⟩ := g_jn_nm h
  have hj23_3 : ∀ (x3 : Int32) (H : Heap) (locs : List Loc) (ls : Array Slot), b_Wd D A s.heap H locs [k_Model g a o pasts length printed told state r1.1 r1.2.1 boxes frees bestFree bestTurned bestFirst bestSecond v spare past kept isKept text paper r1.2.2.1 r1.2.2.2.1 r1.2.2.2.2.1 r1.2.2.2.2.2.1 r1.2.2.2.2.2.2.1 r1.2.2.2.2.2.2.2 boxX boxY boxW boxH freeAtX freeAtY freeW freeH begins ends tried aside] → lv_has ls 3 [(0, .ref (a o))] → j23_3 x3 = some u → W p l e (g_rm 5 125) s m args below meth c H locs 0 0 Q (F0 m 23 ls [.int x3]) := by
    intro x3 H locs ls hw hl h
    subst ej23_3
    dsimp only at h
    refine lv_istore_n (lv' := [(2, .int x3), (0, .ref (a o))]) hx hb dX11_holder_23 rfl hl (by decide) rfl (fun ls hl => ?_)
    refine lv_aload_n hx hb dX11_holder_24 rfl (lv_at hl 1 rfl) ?_
    refine b_get hx hb hT hK hown fl_X11_38 hw 0 0 rfl rfl (v := .ref (a (o+10))) rfl dX11_holder_25 ?_
    refine lv_iload_n hx hb dX11_holder_28 rfl (lv_at hl 0 rfl) ?_
    obtain ⟨x5, ex5, hix5, h⟩ := g_rd_some h
    refine b_iald hx hb hK hw 0 10 rfl (f := r1.2.2.2.2.1) rfl hix5 ex5 dX11_holder_29 ?_
    refine lv_if_le (tgt := 50) hx hb dX11_holder_30 (by decide) (fun hc30 => ?_) (fun hc30 => ?_)
    · rw [if_pos hc30] at h
      refine lv_iconst (v := -1) hx hb dX11_holder_50 (by decide) ?_
      obtain rfl := Option.some.inj h
      exact b_iret hQ hx hb hr hlk hw rfl dX11_holder_51
    · rw [if_neg hc30] at h
      refine lv_aload_n hx hb dX11_holder_33 rfl (lv_at hl 1 rfl) ?_
      refine b_get hx hb hT hK hown fl_X11_7 hw 0 0 rfl rfl (v := .ref (a (o+1))) rfl dX11_holder_34 ?_
      refine lv_iload_n hx hb dX11_holder_37 rfl (lv_at hl 0 rfl) ?_
      refine lv_iconst (v := 3) hx hb dX11_holder_38 (by decide) ?_
      refine b_callS hx hb hml hown hT hK hA hw mk_X11_94 (c_X11_at l D g x3 (3 : Int32)) [] [0] rfl (by decide) rfl hl.1 [.ref (a (o+1))] rfl (Nat.le_of_ble_eq_true rfl) ⟨Nat.le_of_ble_eq_true rfl, Nat.le_of_ble_eq_true rfl⟩ ⟨Nat.zero_le _, Nat.zero_le _⟩ dX11_holder_39 (wb' := [k_Model g a o pasts length printed told state r1.1 r1.2.1 boxes frees bestFree bestTurned bestFirst bestSecond v spare past kept isKept text paper r1.2.2.1 r1.2.2.2.1 r1.2.2.2.2.1 r1.2.2.2.2.2.1 r1.2.2.2.2.2.2.1 r1.2.2.2.2.2.2.2 boxX boxY boxW boxH freeAtX freeAtY freeW freeH begins ends tried aside]) rfl (b_e1 rfl b_e0) 1 rfl (by decide) (st2 := [.int (f_X11_at x3 (3 : Int32)), .ref (a (o+1))]) rfl (fun H locs hw => ?_)
      obtain ⟨x6, ex6, hix6, h⟩ := g_rd_some h
      refine b_iald hx hb hK hw 0 1 rfl (f := v) rfl hix6 ex6 dX11_holder_42 ?_
      refine lv_if_lt (tgt := 50) hx hb dX11_holder_43 (by decide) (fun hc43 => ?_) (fun hc43 => ?_)
      · rw [if_pos hc43] at h
        refine lv_iconst (v := -1) hx hb dX11_holder_50 (by decide) ?_
        obtain rfl := Option.some.inj h
        exact b_iret hQ hx hb hr hlk hw rfl dX11_holder_51
      · rw [if_neg hc43] at h
        refine lv_iload_n hx hb dX11_holder_46 rfl (lv_at hl 0 rfl) ?_
        refine lv_goto (tgt := 51) hx hb dX11_holder_47 (by decide) ?_
        obtain rfl := Option.some.inj h
        exact b_iret hQ hx hb hr hlk hw rfl dX11_holder_51
  refine lv_if_ge (tgt := 17) hx hb dX11_holder_10 (by decide) (fun hc10 => ?_) (fun hc10 => ?_)
  · rw [if_pos hc10] at h
    refine lv_aload_n hx hb dX11_holder_17 rfl (lv_at hl 0 rfl) ?_
    refine b_get hx hb hT hK hown fl_X11_44 hw 0 0 rfl rfl (v := .ref (a (o+12))) rfl dX11_holder_18 ?_
    refine lv_iload_n hx hb dX11_holder_21 rfl (lv_at hl 1 rfl) ?_
    obtain ⟨x7, ex7, hix7, h⟩ := g_rd_some h
    refine b_iald hx hb hK hw 0 12 rfl (f := r1.2.2.2.2.2.2.1) rfl hix7 ex7 dX11_holder_22 ?_
    exact hj23_3 x7 _ _ _ hw (lv_sub hl [0] rfl) h
  · rw [if_neg hc10] at h
    refine lv_iload_n hx hb dX11_holder_13 rfl (lv_at hl 1 rfl) ?_
    refine lv_goto (tgt := 23) hx hb dX11_holder_14 (by decide) ?_
    exact hj23_3 i1 _ _ _ hw (lv_sub hl [0] rfl) h
