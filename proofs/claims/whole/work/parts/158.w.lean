set_option maxRecDepth 100000 in
set_option maxHeartbeats 4000000 in
theorem c_X11_restore (l : Launch) (D : va_G) (g : Nat → ClassId) (a : Nat → Nat) (o : Nat) (pasts : Int32) (length : Int32) (printed : Int32) (told : Int32) (state : Int64) (backX : Int32) (backY : Int32) (boxes : Int32) (frees : Int32) (bestFree : Int32) (bestTurned : Int32) (bestFirst : Int32) (bestSecond : Int32) (v : (Nat → Int32)) (spare : (Nat → Int32)) (past : (Nat → Int32)) (kept : (Nat → Int32)) (isKept : (Nat → Int32)) (text : (Nat → Int32)) (paper : (Nat → Int32)) (left : (Nat → Int32)) (top : (Nat → Int32)) (wide : (Nat → Int32)) (high : (Nat → Int32)) (original : (Nat → Int32)) (turn : (Nat → Int32)) (boxX : (Nat → Int32)) (boxY : (Nat → Int32)) (boxW : (Nat → Int32)) (boxH : (Nat → Int32)) (freeAtX : (Nat → Int32)) (freeAtY : (Nat → Int32)) (freeW : (Nat → Int32)) (freeH : (Nat → Int32)) (begins : (Nat → Int32)) (ends : (Nat → Int32)) (tried : (Nat → Int32)) (aside : (Nat → Int32)) (i1 : Int32) (u : Int32 × Int32 × (Nat → Int32)) (h : f_X11_restore pasts v kept isKept i1 = some u) : b_Ct l yX11_restore cX11_restore 3 (some .int) 1 22 D g [.ref (a o), .int i1] [k_Model g a o pasts length printed told state backX backY boxes frees bestFree bestTurned bestFirst bestSecond v spare past kept isKept text paper left top wide high original turn boxX boxY boxW boxH freeAtX freeAtY freeW freeH begins ends tried aside] [k_Model g a o u.2.1 length printed told state backX backY boxes frees bestFree bestTurned bestFirst bestSecond u.2.2 spare past kept isKept text paper left top wide high original turn boxX boxY boxW boxH freeAtX freeAtY freeW freeH begins ends tried aside] (some (.int u.1)) := by
  refine b_start RX11 (by decide) rfl (Nat.le_of_ble_eq_true rfl) rfl ?_
  intro p e s m args below meth c A ls Q hQ hx hb hr hlk hml hown hT hK hA hw hl
  have hl : lv_has ls 3 [(0, .ref (a o)), (1, .int i1)] := hl
  unfold f_X11_restore at h
  refine lv_iload_n hx hb dX11_restore_0 rfl (lv_at hl 1 rfl) ?_
  refine lv_iconst (v := 0) hx hb dX11_restore_1 (by decide) ?_
  refine lv_iconst (v := 1) hx hb dX11_restore_2 (by decide) ?_
  refine b_callS hx hb hml hown hT hK hA hw mk_X11_86 (c_X11_in l D g i1 (0 : Int32) (1 : Int32)) [] [0] rfl (by decide) rfl hl.1 [] rfl (Nat.le_of_ble_eq_true rfl) ⟨Nat.le_of_ble_eq_true rfl, Nat.le_of_ble_eq_true rfl⟩ ⟨Nat.zero_le _, Nat.zero_le _⟩ dX11_restore_3 (wb' := [k_Model g a o pasts length printed told state backX backY boxes frees bestFree bestTurned bestFirst bestSecond v spare past kept isKept text paper left top wide high original turn boxX boxY boxW boxH freeAtX freeAtY freeW freeH begins ends tried aside]) rfl (b_e1 rfl b_e0) 1 rfl (by decide) (st2 := [.int (f_X11_in i1 (0 : Int32) (1 : Int32))]) rfl (fun H locs hw => ?_)
  refine lv_if_ne (tgt := 11) hx hb dX11_restore_6 (by decide) (fun hc6 => ?_) (fun hc6 => ?_)
  · rw [if_neg hc6] at h
    refine lv_aload_n hx hb dX11_restore_11 rfl (lv_at hl 0 rfl) ?_
    refine b_get hx hb hT hK hown fl_X11_22 hw 0 0 rfl rfl (v := .ref (a (o+5))) rfl dX11_restore_12 ?_
    refine lv_iload_n hx hb dX11_restore_15 rfl (lv_at hl 1 rfl) ?_
    obtain ⟨x1, ex1, hix1, h⟩ := g_rd_some h
    refine b_zald hx hb hK hw 0 5 rfl (f := isKept) rfl hix1 ex1 dX11_restore_16 ?_
    refine lv_if_ne (tgt := 23) hx hb dX11_restore_17 (by decide) (fun hc17 => ?_) (fun hc17 => ?_)
    · rw [if_neg hc17] at h
      refine lv_iconst (v := 0) hx hb dX11_restore_23 (by decide) ?_
      refine lv_istore_n (lv' := [(2, .int (0 : Int32)), (0, .ref (a o)), (1, .int i1)]) hx hb dX11_restore_24 rfl hl (by decide) rfl (fun ls hl => ?_)
      obtain ⟨k56_2, ek56_2, h⟩ := g_jn_nm h
      have hk56_2 : ∀ (f2 : Nat → Int32) (H : Heap) (locs : List Loc) (ls : Array Slot), b_Wd D A s.heap H locs [k_Model g a o pasts length printed told state backX backY boxes frees bestFree bestTurned bestFirst bestSecond f2 spare past kept isKept text paper left top wide high original turn boxX boxY boxW boxH freeAtX freeAtY freeW freeH begins ends tried aside] → lv_has ls 3 [(0, .ref (a o))] → k56_2 f2 = some u → W p l e (g_rm 1 22) s m args below meth c H locs 0 0 Q (F0 m 56 ls []) := by
        intro f2 H locs ls hw hl h
        subst ek56_2
        dsimp only at h
        refine lv_aload_n hx hb dX11_restore_56 rfl (lv_at hl 0 rfl) ?_
        refine lv_iconst (v := 0) hx hb dX11_restore_57 (by decide) ?_
        refine b_putf hx hb hT hK hown fl_X11_90 ft_X11 hw 0 0 rfl rfl rfl rfl rfl (Nat.le_of_ble_eq_true rfl) rfl (wb' := [k_Model g a o (0 : Int32) length printed told state backX backY boxes frees bestFree bestTurned bestFirst bestSecond f2 spare past kept isKept text paper left top wide high original turn boxX boxY boxW boxH freeAtX freeAtY freeW freeH begins ends tried aside]) rfl dX11_restore_58 (fun H locs hw => ?_)
        refine lv_aload_n hx hb dX11_restore_61 rfl (lv_at hl 0 rfl) ?_
        refine b_get hx hb hT hK hown fl_X11_7 hw 0 0 rfl rfl (v := .ref (a (o+1))) rfl dX11_restore_62 ?_
        refine lv_iconst (v := 0) hx hb dX11_restore_65 (by decide) ?_
        obtain ⟨x4, ex4, hix4, h⟩ := g_rd_some h
        refine b_iald hx hb hK hw 0 1 rfl (f := f2) rfl hix4 ex4 dX11_restore_66 ?_
        obtain rfl := Option.some.inj h
        exact b_iret hQ hx hb hr hlk hw rfl dX11_restore_67
      have hL25 : ∀ (n : Nat) (x5 : Int32) (f6 : Nat → Int32) (H : Heap) (locs : List Loc) (ls : Array Slot), b_Wd D A s.heap H locs [k_Model g a o pasts length printed told state backX backY boxes frees bestFree bestTurned bestFirst bestSecond f6 spare past kept isKept text paper left top wide high original turn boxX boxY boxW boxH freeAtX freeAtY freeW freeH begins ends tried aside] → lv_has ls 3 [(0, .ref (a o)), (1, .int i1), (2, .int x5)] → f_X11_restore_L25 kept i1 k56_2 n x5 f6 = some u → W p l e (g_rm 1 22) s m args below meth c H locs 0 0 Q (F0 m 25 ls []) := by
        intro n
        induction n with
        | zero =>
          intro x5 f6 H locs ls hw hl h
          cases (show none = some u from h)
        | succ n ih25 =>
          intro x5 f6 H locs ls hw hl h
          rw [f_X11_restore_L25] at h
          refine lv_iload_n hx hb dX11_restore_25 rfl (lv_at hl 2 rfl) ?_
          refine lv_sipush (v := 1748) hx hb dX11_restore_26 (by decide) ?_
          refine lv_icmp_ge (tgt := 56) hx hb dX11_restore_29 (by decide) (fun hc29 => ?_) (fun hc29 => ?_)
          · rw [if_pos hc29] at h
            exact hk56_2 f6 _ _ _ hw (lv_sub hl [0] rfl) h
          · rw [if_neg hc29] at h
            refine lv_aload_n hx hb dX11_restore_32 rfl (lv_at hl 0 rfl) ?_
            refine b_get hx hb hT hK hown fl_X11_7 hw 0 0 rfl rfl (v := .ref (a (o+1))) rfl dX11_restore_33 ?_
            refine lv_iload_n hx hb dX11_restore_36 rfl (lv_at hl 2 rfl) ?_
            refine lv_aload_n hx hb dX11_restore_37 rfl (lv_at hl 0 rfl) ?_
            refine b_get hx hb hT hK hown fl_X11_19 hw 0 0 rfl rfl (v := .ref (a (o+4))) rfl dX11_restore_38 ?_
            refine lv_sipush (v := 1748) hx hb dX11_restore_41 (by decide) ?_
            refine lv_iload_n hx hb dX11_restore_44 rfl (lv_at hl 1 rfl) ?_
            refine lv_imul hx hb dX11_restore_45 ?_
            refine lv_iload_n hx hb dX11_restore_46 rfl (lv_at hl 2 rfl) ?_
            refine lv_iadd hx hb dX11_restore_47 ?_
            obtain ⟨x7, ex7, hix7, h⟩ := g_rd_some h
            refine b_iald hx hb hK hw 0 4 rfl (f := kept) rfl hix7 ex7 dX11_restore_48 ?_
            obtain ⟨f8, ef8, hif8, h⟩ := g_wr_some h
            refine b_iast hx hb hK hw 0 1 rfl (f := f6) rfl hif8 ef8 rfl (wb' := [k_Model g a o pasts length printed told state backX backY boxes frees bestFree bestTurned bestFirst bestSecond f8 spare past kept isKept text paper left top wide high original turn boxX boxY boxW boxH freeAtX freeAtY freeW freeH begins ends tried aside]) rfl dX11_restore_49 (fun H locs hw => ?_)
            obtain ⟨x9, ex9, h⟩ := g_bd_nm h
            refine lv_iinc (v := x9) (lv' := [(2, .int x9), (0, .ref (a o)), (1, .int i1)]) hx hb dX11_restore_50 hl (k := 2) rfl (by rw [ex9]; rfl) (by decide) rfl (fun ls hl => ?_)
            refine lv_goto (tgt := 25) hx hb dX11_restore_53 (by decide) ?_
            exact ih25 x9 f8 _ _ _ hw (lv_sub hl [1, 2, 0] rfl) h
      exact hL25 g_fuel (0 : Int32) v _ _ _ hw (lv_sub hl [1, 2, 0] rfl) h
    · rw [if_pos hc17] at h
      refine lv_bipush (v := -3) hx hb dX11_restore_20 (by decide) ?_
      obtain rfl := Option.some.inj h
      exact b_iret hQ hx hb hr hlk hw rfl dX11_restore_22
  · rw [if_pos hc6] at h
    refine lv_iconst (v := -1) hx hb dX11_restore_9 (by decide) ?_
    obtain rfl := Option.some.inj h
    exact b_iret hQ hx hb hr hlk hw rfl dX11_restore_10
set_option maxRecDepth 100000 in
set_option maxHeartbeats 4000000 in
theorem c_X11_more (l : Launch) (D : va_G) (g : Nat → ClassId) (i1 : Int64) (i2 : Int32) : b_Ct l yX11_more cX11_more 3 (some .long) 0 0 D g [.long i1, .int i2] ([] : List va_W) ([] : List va_W) (some (.long (f_X11_more i1 i2))) := by
  refine b_start RX11 (by decide) rfl (Nat.le_of_ble_eq_true rfl) rfl ?_
  intro p e s m args below meth c A ls Q hQ hx hb hr hlk hml hown hT hK hA hw hl
  have hl : lv_has ls 3 [(0, .long i1), (2, .int i2)] := hl
  generalize h : f_X11_more i1 i2 = u at hQ
  unfold f_X11_more at h
  refine lv_ldc2 hx hb hown (hT _ kc_X11_337) dX11_more_0 ?_
  refine lv_lload_n hx hb dX11_more_3 rfl (lv_at hl 0 rfl) ?_
  refine lv_lmul hx hb dX11_more_4 ?_
  refine lv_iload_n hx hb dX11_more_5 rfl (lv_at hl 1 rfl) ?_
  refine lv_i2l hx hb dX11_more_6 rfl ?_
  refine lv_ladd hx hb dX11_more_7 ?_
  obtain rfl := h
  exact b_lret hQ hx hb hr hlk hw rfl dX11_more_8
set_option maxRecDepth 100000 in
set_option maxHeartbeats 4000000 in
theorem c_X11_orNone (l : Launch) (D : va_G) (g : Nat → ClassId) (i1 : Int32) (i2 : Int32) : b_Ct l yX11_orNone cX11_orNone 2 (some .int) 0 0 D g [.int i1, .int i2] ([] : List va_W) ([] : List va_W) (some (.int (f_X11_orNone i1 i2))) := by
  refine b_start RX11 (by decide) rfl (Nat.le_of_ble_eq_true rfl) rfl ?_
  intro p e s m args below meth c A ls Q hQ hx hb hr hlk hml hown hT hK hA hw hl
  have hl : lv_has ls 2 [(0, .int i1), (1, .int i2)] := hl
  generalize h : f_X11_orNone i1 i2 = u at hQ
  unfold f_X11_orNone at h
  refine lv_iload_n hx hb dX11_orNone_0 rfl (lv_at hl 0 rfl) ?_
  refine lv_if_eq (tgt := 8) hx hb dX11_orNone_1 (by decide) (fun hc1 => ?_) (fun hc1 => ?_)
  · rw [if_pos hc1] at h
    refine lv_bipush (v := -4) hx hb dX11_orNone_8 (by decide) ?_
    obtain rfl := h
    exact b_iret hQ hx hb hr hlk hw rfl dX11_orNone_10
  · rw [if_neg hc1] at h
    refine lv_iload_n hx hb dX11_orNone_4 rfl (lv_at hl 1 rfl) ?_
    refine lv_goto (tgt := 10) hx hb dX11_orNone_5 (by decide) ?_
    obtain rfl := h
    exact b_iret hQ hx hb hr hlk hw rfl dX11_orNone_10
set_option maxRecDepth 100000 in
set_option maxHeartbeats 4000000 in
theorem c_X11_moreOf (l : Launch) (D : va_G) (g : Nat → ClassId) (a : Nat → Nat) (o : Nat) (pasts : Int32) (length : Int32) (printed : Int32) (told : Int32) (state : Int64) (backX : Int32) (backY : Int32) (boxes : Int32) (frees : Int32) (bestFree : Int32) (bestTurned : Int32) (bestFirst : Int32) (bestSecond : Int32) (v : (Nat → Int32)) (spare : (Nat → Int32)) (past : (Nat → Int32)) (kept : (Nat → Int32)) (isKept : (Nat → Int32)) (text : (Nat → Int32)) (paper : (Nat → Int32)) (left : (Nat → Int32)) (top : (Nat → Int32)) (wide : (Nat → Int32)) (high : (Nat → Int32)) (original : (Nat → Int32)) (turn : (Nat → Int32)) (boxX : (Nat → Int32)) (boxY : (Nat → Int32)) (boxW : (Nat → Int32)) (boxH : (Nat → Int32)) (freeAtX : (Nat → Int32)) (freeAtY : (Nat → Int32)) (freeW : (Nat → Int32)) (freeH : (Nat → Int32)) (begins : (Nat → Int32)) (ends : (Nat → Int32)) (tried : (Nat → Int32)) (aside : (Nat → Int32)) (i1 : Int64) (i2 : Int32) (u : Int64 × Int32 × Int32) (h : f_X11_moreOf backX backY v left top wide high original turn i1 i2 = some u) : b_Ct l yX11_moreOf cX11_moreOf 12 (some .long) 4 104 D g [.ref (a o), .long i1, .int i2] [k_Model g a o pasts length printed told state backX backY boxes frees bestFree bestTurned bestFirst bestSecond v spare past kept isKept text paper left top wide high original turn boxX boxY boxW boxH freeAtX freeAtY freeW freeH begins ends tried aside] [k_Model g a o pasts length printed told state u.2.1 u.2.2 boxes frees bestFree bestTurned bestFirst bestSecond v spare past kept isKept text paper left top wide high original turn boxX boxY boxW boxH freeAtX freeAtY freeW freeH begins ends tried aside] (some (.long u.1)) := by
  refine b_start RX11 (by decide) rfl (Nat.le_of_ble_eq_true rfl) rfl ?_
  intro p e s m args below meth c A ls Q hQ hx hb hr hlk hml hown hT hK hA hw hl
  have hl : lv_has ls 12 [(0, .ref (a o)), (1, .long i1), (3, .int i2)] := hl
  unfold f_X11_moreOf at h
  refine lv_aload_n hx hb dX11_moreOf_0 rfl (lv_at hl 0 rfl) ?_
  refine b_get hx hb hT hK hown fl_X11_7 hw 0 0 rfl rfl (v := .ref (a (o+1))) rfl dX11_moreOf_1 ?_
  refine lv_iload_n hx hb dX11_moreOf_4 rfl (lv_at hl 2 rfl) ?_
  refine lv_iconst (v := 0) hx hb dX11_moreOf_5 (by decide) ?_
  refine b_callS hx hb hml hown hT hK hA hw mk_X11_94 (c_X11_at l D g i2 (0 : Int32)) [] [0] rfl (by decide) rfl hl.1 [.ref (a (o+1))] rfl (Nat.le_of_ble_eq_true rfl) ⟨Nat.le_of_ble_eq_true rfl, Nat.le_of_ble_eq_true rfl⟩ ⟨Nat.zero_le _, Nat.zero_le _⟩ dX11_moreOf_6 (wb' := [k_Model g a o pasts length printed told state backX backY boxes frees bestFree bestTurned bestFirst bestSecond v spare past kept isKept text paper left top wide high original turn boxX boxY boxW boxH freeAtX freeAtY freeW freeH begins ends tried aside]) rfl (b_e1 rfl b_e0) 1 rfl (by decide) (st2 := [.int (f_X11_at i2 (0 : Int32)), .ref (a (o+1))]) rfl (fun H locs hw => ?_)
  obtain ⟨x1, ex1, hix1, h⟩ := g_rd_some h
  refine b_iald hx hb hK hw 0 1 rfl (f := v) rfl hix1 ex1 dX11_moreOf_9 ?_
  refine lv_istore (lv' := [(4, .int x1), (0, .ref (a o)), (1, .long i1), (3, .int i2)]) hx hb dX11_moreOf_10 hl (by decide) rfl (fun ls hl => ?_)
  refine lv_aload_n hx hb dX11_moreOf_12 rfl (lv_at hl 1 rfl) ?_
  refine b_get hx hb hT hK hown fl_X11_7 hw 0 0 rfl rfl (v := .ref (a (o+1))) rfl dX11_moreOf_13 ?_
  refine lv_iload_n hx hb dX11_moreOf_16 rfl (lv_at hl 3 rfl) ?_
  refine lv_iconst (v := 1) hx hb dX11_moreOf_17 (by decide) ?_
  refine b_callS hx hb hml hown hT hK hA hw mk_X11_94 (c_X11_at l D g i2 (1 : Int32)) [] [0] rfl (by decide) rfl hl.1 [.ref (a (o+1))] rfl (Nat.le_of_ble_eq_true rfl) ⟨Nat.le_of_ble_eq_true rfl, Nat.le_of_ble_eq_true rfl⟩ ⟨Nat.zero_le _, Nat.zero_le _⟩ dX11_moreOf_18 (wb' := [k_Model g a o pasts length printed told state backX backY boxes frees bestFree bestTurned bestFirst bestSecond v spare past kept isKept text paper left top wide high original turn boxX boxY boxW boxH freeAtX freeAtY freeW freeH begins ends tried aside]) rfl (b_e1 rfl b_e0) 1 rfl (by decide) (st2 := [.int (f_X11_at i2 (1 : Int32)), .ref (a (o+1))]) rfl (fun H locs hw => ?_)
  obtain ⟨x2, ex2, hix2, h⟩ := g_rd_some h
  refine b_iald hx hb hK hw 0 1 rfl (f := v) rfl hix2 ex2 dX11_moreOf_21 ?_
  refine lv_istore (lv' := [(5, .int x2), (4, .int x1), (0, .ref (a o)), (1, .long i1), (3, .int i2)]) hx hb dX11_moreOf_22 hl (by decide) rfl (fun ls hl => ?_)
  refine lv_lload_n hx hb dX11_moreOf_24 rfl (lv_at hl 3 rfl) ?_
  refine lv_iload hx hb dX11_moreOf_25 (lv_at hl 1 rfl) ?_
  refine b_callS hx hb hml hown hT hK hA hw mk_X11_339 (c_X11_more l D g i1 x1) [] [0] rfl (by decide) rfl hl.1 [] rfl (Nat.le_of_ble_eq_true rfl) ⟨Nat.le_of_ble_eq_true rfl, Nat.le_of_ble_eq_true rfl⟩ ⟨Nat.zero_le _, Nat.zero_le _⟩ dX11_moreOf_27 (wb' := [k_Model g a o pasts length printed told state backX backY boxes frees bestFree bestTurned bestFirst bestSecond v spare past kept isKept text paper left top wide high original turn boxX boxY boxW boxH freeAtX freeAtY freeW freeH begins ends tried aside]) rfl (b_e1 rfl b_e0) 1 rfl (by decide) (st2 := [.long (f_X11_more i1 x1)]) rfl (fun H locs hw => ?_)
  refine lv_iload hx hb dX11_moreOf_30 (lv_at hl 0 rfl) ?_
  refine b_callS hx hb hml hown hT hK hA hw mk_X11_339 (c_X11_more l D g (f_X11_more i1 x1) x2) [] [0] rfl (by decide) rfl hl.1 [] rfl (Nat.le_of_ble_eq_true rfl) ⟨Nat.le_of_ble_eq_true rfl, Nat.le_of_ble_eq_true rfl⟩ ⟨Nat.zero_le _, Nat.zero_le _⟩ dX11_moreOf_32 (wb' := [k_Model g a o pasts length printed told state backX backY boxes frees bestFree bestTurned bestFirst bestSecond v spare past kept isKept text paper left top wide high original turn boxX boxY boxW boxH freeAtX freeAtY freeW freeH begins ends tried aside]) rfl (b_e1 rfl b_e0) 1 rfl (by decide) (st2 := [.long (f_X11_more (f_X11_more i1 x1) x2)]) rfl (fun H locs hw => ?_)
  obtain ⟨y3, ey3, h⟩ := g_bd_nm h
  refine g_topl ey3 ?_
  refine lv_lstore (lv' := [(6, .long y3), (5, .int x2), (4, .int x1), (0, .ref (a o)), (1, .long i1), (3, .int i2)]) hx hb dX11_moreOf_35 hl (by decide) rfl (fun ls hl => ?_)
  refine lv_iconst (v := 0) hx hb dX11_moreOf_37 (by decide) ?_
  refine lv_istore (lv' := [(8, .int (0 : Int32)), (6, .long y3), (5, .int x2), (4, .int x1), (0, .ref (a o)), (1, .long i1), (3, .int i2)]) hx hb dX11_moreOf_38 hl (by decide) rfl (fun ls hl => ?_)
  obtain ⟨k82_4, ek82_4, h⟩ := g_jn_nm h
  have hk82_4 : ∀ (y4 : Int64) (H : Heap) (locs : List Loc) (ls : Array Slot), b_Wd D A s.heap H locs [k_Model g a o pasts length printed told state backX backY boxes frees bestFree bestTurned bestFirst bestSecond v spare past kept isKept text paper left top wide high original turn boxX boxY boxW boxH freeAtX freeAtY freeW freeH begins ends tried aside] → lv_has ls 12 [(0, .ref (a o)), (3, .int i2), (6, .long y4)] → k82_4 y4 = some u → W p l e (g_rm 4 104) s m args below meth c H locs 0 0 Q (F0 m 82 ls []) := by
    intro y4 H locs ls hw hl h
    subst ek82_4
    dsimp only at h
    refine lv_lload hx hb dX11_moreOf_82 (lv_at hl 2 rfl) ?_
    refine lv_aload_n hx hb dX11_moreOf_84 rfl (lv_at hl 0 rfl) ?_
    refine b_get hx hb hT hK hown fl_X11_7 hw 0 0 rfl rfl (v := .ref (a (o+1))) rfl dX11_moreOf_85 ?_
    refine lv_iload_n hx hb dX11_moreOf_88 rfl (lv_at hl 1 rfl) ?_
    refine lv_iconst (v := 2) hx hb dX11_moreOf_89 (by decide) ?_
    refine b_callS hx hb hml hown hT hK hA hw mk_X11_94 (c_X11_at l D g i2 (2 : Int32)) [] [0] rfl (by decide) rfl hl.1 [.ref (a (o+1)), .long y4] rfl (Nat.le_of_ble_eq_true rfl) ⟨Nat.le_of_ble_eq_true rfl, Nat.le_of_ble_eq_true rfl⟩ ⟨Nat.zero_le _, Nat.zero_le _⟩ dX11_moreOf_90 (wb' := [k_Model g a o pasts length printed told state backX backY boxes frees bestFree bestTurned bestFirst bestSecond v spare past kept isKept text paper left top wide high original turn boxX boxY boxW boxH freeAtX freeAtY freeW freeH begins ends tried aside]) rfl (b_e1 rfl b_e0) 1 rfl (by decide) (st2 := [.int (f_X11_at i2 (2 : Int32)), .ref (a (o+1)), .long y4]) rfl (fun H locs hw => ?_)
    obtain ⟨x6, ex6, hix6, h⟩ := g_rd_some h
    refine b_iald hx hb hK hw 0 1 rfl (f := v) rfl hix6 ex6 dX11_moreOf_93 ?_
    refine b_callS hx hb hml hown hT hK hA hw mk_X11_339 (c_X11_more l D g y4 x6) [] [0] rfl (by decide) rfl hl.1 [] rfl (Nat.le_of_ble_eq_true rfl) ⟨Nat.le_of_ble_eq_true rfl, Nat.le_of_ble_eq_true rfl⟩ ⟨Nat.zero_le _, Nat.zero_le _⟩ dX11_moreOf_94 (wb' := [k_Model g a o pasts length printed told state backX backY boxes frees bestFree bestTurned bestFirst bestSecond v spare past kept isKept text paper left top wide high original turn boxX boxY boxW boxH freeAtX freeAtY freeW freeH begins ends tried aside]) rfl (b_e1 rfl b_e0) 1 rfl (by decide) (st2 := [.long (f_X11_more y4 x6)]) rfl (fun H locs hw => ?_)
    obtain ⟨y7, ey7, h⟩ := g_bd_nm h
    refine g_topl ey7 ?_
    refine lv_lstore (lv' := [(6, .long y7), (0, .ref (a o)), (3, .int i2)]) hx hb dX11_moreOf_97 hl (by decide) rfl (fun ls hl => ?_)
    refine lv_aload_n hx hb dX11_moreOf_99 rfl (lv_at hl 1 rfl) ?_
    refine b_get hx hb hT hK hown fl_X11_38 hw 0 0 rfl rfl (v := .ref (a (o+10))) rfl dX11_moreOf_100 ?_
    refine lv_iload_n hx hb dX11_moreOf_103 rfl (lv_at hl 2 rfl) ?_
    obtain ⟨x8, ex8, hix8, h⟩ := g_rd_some h
    refine b_iald hx hb hK hw 0 10 rfl (f := wide) rfl hix8 ex8 dX11_moreOf_104 ?_
    obtain ⟨j113_9, ej113_9, h⟩ := g_bd_k h
    have hj113_9 : ∀ (x9 : Int32) (H : Heap) (locs : List Loc) (ls : Array Slot), b_Wd D A s.heap H locs [k_Model g a o pasts length printed told state backX backY boxes frees bestFree bestTurned bestFirst bestSecond v spare past kept isKept text paper left top wide high original turn boxX boxY boxW boxH freeAtX freeAtY freeW freeH begins ends tried aside] → lv_has ls 12 [(0, .ref (a o)), (3, .int i2), (6, .long y7)] → j113_9 x9 = some u → W p l e (g_rm 4 104) s m args below meth c H locs 0 0 Q (F0 m 113 ls [.int x9]) := by
      intro x9 H locs ls hw hl h
      subst ej113_9
      dsimp only at h
      refine lv_istore (lv' := [(8, .int x9), (0, .ref (a o)), (3, .int i2), (6, .long y7)]) hx hb dX11_moreOf_113 hl (by decide) rfl (fun ls hl => ?_)
      refine lv_lload hx hb dX11_moreOf_115 (lv_at hl 3 rfl) ?_
      refine lv_iload hx hb dX11_moreOf_117 (lv_at hl 0 rfl) ?_
      refine lv_aload_n hx hb dX11_moreOf_119 rfl (lv_at hl 1 rfl) ?_
      refine b_get hx hb hT hK hown fl_X11_32 hw 0 0 rfl rfl (v := .ref (a (o+8))) rfl dX11_moreOf_120 ?_
      refine lv_iload_n hx hb dX11_moreOf_123 rfl (lv_at hl 2 rfl) ?_
      obtain ⟨x10, ex10, hix10, h⟩ := g_rd_some h
      refine b_iald hx hb hK hw 0 8 rfl (f := left) rfl hix10 ex10 dX11_moreOf_124 ?_
      refine b_callS hx hb hml hown hT hK hA hw mk_X11_343 (c_X11_orNone l D g x9 x10) [] [0] rfl (by decide) rfl hl.1 [.long y7] rfl (Nat.le_of_ble_eq_true rfl) ⟨Nat.le_of_ble_eq_true rfl, Nat.le_of_ble_eq_true rfl⟩ ⟨Nat.zero_le _, Nat.zero_le _⟩ dX11_moreOf_125 (wb' := [k_Model g a o pasts length printed told state backX backY boxes frees bestFree bestTurned bestFirst bestSecond v spare past kept isKept text paper left top wide high original turn boxX boxY boxW boxH freeAtX freeAtY freeW freeH begins ends tried aside]) rfl (b_e1 rfl b_e0) 1 rfl (by decide) (st2 := [.int (f_X11_orNone x9 x10), .long y7]) rfl (fun H locs hw => ?_)
      refine b_callS hx hb hml hown hT hK hA hw mk_X11_339 (c_X11_more l D g y7 (f_X11_orNone x9 x10)) [] [0] rfl (by decide) rfl hl.1 [] rfl (Nat.le_of_ble_eq_true rfl) ⟨Nat.le_of_ble_eq_true rfl, Nat.le_of_ble_eq_true rfl⟩ ⟨Nat.zero_le _, Nat.zero_le _⟩ dX11_moreOf_128 (wb' := [k_Model g a o pasts length printed told state backX backY boxes frees bestFree bestTurned bestFirst bestSecond v spare past kept isKept text paper left top wide high original turn boxX boxY boxW boxH freeAtX freeAtY freeW freeH begins ends tried aside]) rfl (b_e1 rfl b_e0) 1 rfl (by decide) (st2 := [.long (f_X11_more y7 (f_X11_orNone x9 x10))]) rfl (fun H locs hw => ?_)
      refine lv_iload hx hb dX11_moreOf_131 (lv_at hl 0 rfl) ?_
      refine lv_aload_n hx hb dX11_moreOf_133 rfl (lv_at hl 1 rfl) ?_
      refine b_get hx hb hT hK hown fl_X11_35 hw 0 0 rfl rfl (v := .ref (a (o+9))) rfl dX11_moreOf_134 ?_
      refine lv_iload_n hx hb dX11_moreOf_137 rfl (lv_at hl 2 rfl) ?_
      obtain ⟨x11, ex11, hix11, h⟩ := g_rd_some h
      refine b_iald hx hb hK hw 0 9 rfl (f := top) rfl hix11 ex11 dX11_moreOf_138 ?_
      refine b_callS hx hb hml hown hT hK hA hw mk_X11_343 (c_X11_orNone l D g x9 x11) [] [0] rfl (by decide) rfl hl.1 [.long (f_X11_more y7 (f_X11_orNone x9 x10))] rfl (Nat.le_of_ble_eq_true rfl) ⟨Nat.le_of_ble_eq_true rfl, Nat.le_of_ble_eq_true rfl⟩ ⟨Nat.zero_le _, Nat.zero_le _⟩ dX11_moreOf_139 (wb' := [k_Model g a o pasts length printed told state backX backY boxes frees bestFree bestTurned bestFirst bestSecond v spare past kept isKept text paper left top wide high original turn boxX boxY boxW boxH freeAtX freeAtY freeW freeH begins ends tried aside]) rfl (b_e1 rfl b_e0) 1 rfl (by decide) (st2 := [.int (f_X11_orNone x9 x11), .long (f_X11_more y7 (f_X11_orNone x9 x10))]) rfl (fun H locs hw => ?_)
      refine b_callS hx hb hml hown hT hK hA hw mk_X11_339 (c_X11_more l D g (f_X11_more y7 (f_X11_orNone x9 x10)) (f_X11_orNone x9 x11)) [] [0] rfl (by decide) rfl hl.1 [] rfl (Nat.le_of_ble_eq_true rfl) ⟨Nat.le_of_ble_eq_true rfl, Nat.le_of_ble_eq_true rfl⟩ ⟨Nat.zero_le _, Nat.zero_le _⟩ dX11_moreOf_142 (wb' := [k_Model g a o pasts length printed told state backX backY boxes frees bestFree bestTurned bestFirst bestSecond v spare past kept isKept text paper left top wide high original turn boxX boxY boxW boxH freeAtX freeAtY freeW freeH begins ends tried aside]) rfl (b_e1 rfl b_e0) 1 rfl (by decide) (st2 := [.long (f_X11_more (f_X11_more y7 (f_X11_orNone x9 x10)) (f_X11_orNone x9 x11))]) rfl (fun H locs hw => ?_)
      obtain ⟨y12, ey12, h⟩ := g_bd_nm h
      refine g_topl ey12 ?_
      refine lv_lstore (lv' := [(6, .long y12), (8, .int x9), (0, .ref (a o)), (3, .int i2)]) hx hb dX11_moreOf_145 hl (by decide) rfl (fun ls hl => ?_)
      refine lv_lload hx hb dX11_moreOf_147 (lv_at hl 0 rfl) ?_
      refine lv_aload_n hx hb dX11_moreOf_149 rfl (lv_at hl 2 rfl) ?_
      refine b_get hx hb hT hK hown fl_X11_38 hw 0 0 rfl rfl (v := .ref (a (o+10))) rfl dX11_moreOf_150 ?_
      refine lv_iload_n hx hb dX11_moreOf_153 rfl (lv_at hl 3 rfl) ?_
      obtain ⟨x13, ex13, hix13, h⟩ := g_rd_some h
      refine b_iald hx hb hK hw 0 10 rfl (f := wide) rfl hix13 ex13 dX11_moreOf_154 ?_
      refine b_callS hx hb hml hown hT hK hA hw mk_X11_339 (c_X11_more l D g y12 x13) [] [0] rfl (by decide) rfl hl.1 [] rfl (Nat.le_of_ble_eq_true rfl) ⟨Nat.le_of_ble_eq_true rfl, Nat.le_of_ble_eq_true rfl⟩ ⟨Nat.zero_le _, Nat.zero_le _⟩ dX11_moreOf_155 (wb' := [k_Model g a o pasts length printed told state backX backY boxes frees bestFree bestTurned bestFirst bestSecond v spare past kept isKept text paper left top wide high original turn boxX boxY boxW boxH freeAtX freeAtY freeW freeH begins ends tried aside]) rfl (b_e1 rfl b_e0) 1 rfl (by decide) (st2 := [.long (f_X11_more y12 x13)]) rfl (fun H locs hw => ?_)
      refine lv_aload_n hx hb dX11_moreOf_158 rfl (lv_at hl 2 rfl) ?_
      refine b_get hx hb hT hK hown fl_X11_41 hw 0 0 rfl rfl (v := .ref (a (o+11))) rfl dX11_moreOf_159 ?_
      refine lv_iload_n hx hb dX11_moreOf_162 rfl (lv_at hl 3 rfl) ?_
      obtain ⟨x14, ex14, hix14, h⟩ := g_rd_some h
      refine b_iald hx hb hK hw 0 11 rfl (f := high) rfl hix14 ex14 dX11_moreOf_163 ?_
      refine b_callS hx hb hml hown hT hK hA hw mk_X11_339 (c_X11_more l D g (f_X11_more y12 x13) x14) [] [0] rfl (by decide) rfl hl.1 [] rfl (Nat.le_of_ble_eq_true rfl) ⟨Nat.le_of_ble_eq_true rfl, Nat.le_of_ble_eq_true rfl⟩ ⟨Nat.zero_le _, Nat.zero_le _⟩ dX11_moreOf_164 (wb' := [k_Model g a o pasts length printed told state backX backY boxes frees bestFree bestTurned bestFirst bestSecond v spare past kept isKept text paper left top wide high original turn boxX boxY boxW boxH freeAtX freeAtY freeW freeH begins ends tried aside]) rfl (b_e1 rfl b_e0) 1 rfl (by decide) (st2 := [.long (f_X11_more (f_X11_more y12 x13) x14)]) rfl (fun H locs hw => ?_)
      obtain ⟨y15, ey15, h⟩ := g_bd_nm h
      refine g_topl ey15 ?_
      refine lv_lstore (lv' := [(6, .long y15), (8, .int x9), (0, .ref (a o)), (3, .int i2)]) hx hb dX11_moreOf_167 hl (by decide) rfl (fun ls hl => ?_)
      refine lv_aload_n hx hb dX11_moreOf_169 rfl (lv_at hl 2 rfl) ?_
      refine b_get hx hb hT hK hown fl_X11_44 hw 0 0 rfl rfl (v := .ref (a (o+12))) rfl dX11_moreOf_170 ?_
      refine lv_iload_n hx hb dX11_moreOf_173 rfl (lv_at hl 3 rfl) ?_
      obtain ⟨x16, ex16, hix16, h⟩ := g_rd_some h
      refine b_iald hx hb hK hw 0 12 rfl (f := original) rfl hix16 ex16 dX11_moreOf_174 ?_
      obtain ⟨j183_17, ej183_17, h⟩ := g_bd_k h
      have hj183_17 : ∀ (x17 : Int32) (H : Heap) (locs : List Loc) (ls : Array Slot), b_Wd D A s.heap H locs [k_Model g a o pasts length printed told state backX backY boxes frees bestFree bestTurned bestFirst bestSecond v spare past kept isKept text paper left top wide high original turn boxX boxY boxW boxH freeAtX freeAtY freeW freeH begins ends tried aside] → lv_has ls 12 [(0, .ref (a o)), (3, .int i2), (6, .long y15), (8, .int x9)] → j183_17 x17 = some u → W p l e (g_rm 4 104) s m args below meth c H locs 0 0 Q (F0 m 183 ls [.int x17]) := by
        intro x17 H locs ls hw hl h
        subst ej183_17
        dsimp only at h
        refine lv_istore (lv' := [(9, .int x17), (0, .ref (a o)), (3, .int i2), (6, .long y15), (8, .int x9)]) hx hb dX11_moreOf_183 hl (by decide) rfl (fun ls hl => ?_)
        refine lv_lload hx hb dX11_moreOf_185 (lv_at hl 3 rfl) ?_
        refine lv_iload hx hb dX11_moreOf_187 (lv_at hl 0 rfl) ?_
        refine lv_aload_n hx hb dX11_moreOf_189 rfl (lv_at hl 1 rfl) ?_
        refine b_get hx hb hT hK hown fl_X11_44 hw 0 0 rfl rfl (v := .ref (a (o+12))) rfl dX11_moreOf_190 ?_
        refine lv_iload_n hx hb dX11_moreOf_193 rfl (lv_at hl 2 rfl) ?_
        obtain ⟨x18, ex18, hix18, h⟩ := g_rd_some h
        refine b_iald hx hb hK hw 0 12 rfl (f := original) rfl hix18 ex18 dX11_moreOf_194 ?_
        refine b_callS hx hb hml hown hT hK hA hw mk_X11_343 (c_X11_orNone l D g x17 x18) [] [0] rfl (by decide) rfl hl.1 [.long y15] rfl (Nat.le_of_ble_eq_true rfl) ⟨Nat.le_of_ble_eq_true rfl, Nat.le_of_ble_eq_true rfl⟩ ⟨Nat.zero_le _, Nat.zero_le _⟩ dX11_moreOf_195 (wb' := [k_Model g a o pasts length printed told state backX backY boxes frees bestFree bestTurned bestFirst bestSecond v spare past kept isKept text paper left top wide high original turn boxX boxY boxW boxH freeAtX freeAtY freeW freeH begins ends tried aside]) rfl (b_e1 rfl b_e0) 1 rfl (by decide) (st2 := [.int (f_X11_orNone x17 x18), .long y15]) rfl (fun H locs hw => ?_)
        refine b_callS hx hb hml hown hT hK hA hw mk_X11_339 (c_X11_more l D g y15 (f_X11_orNone x17 x18)) [] [0] rfl (by decide) rfl hl.1 [] rfl (Nat.le_of_ble_eq_true rfl) ⟨Nat.le_of_ble_eq_true rfl, Nat.le_of_ble_eq_true rfl⟩ ⟨Nat.zero_le _, Nat.zero_le _⟩ dX11_moreOf_198 (wb' := [k_Model g a o pasts length printed told state backX backY boxes frees bestFree bestTurned bestFirst bestSecond v spare past kept isKept text paper left top wide high original turn boxX boxY boxW boxH freeAtX freeAtY freeW freeH begins ends tried aside]) rfl (b_e1 rfl b_e0) 1 rfl (by decide) (st2 := [.long (f_X11_more y15 (f_X11_orNone x17 x18))]) rfl (fun H locs hw => ?_)
        refine lv_iload hx hb dX11_moreOf_201 (lv_at hl 0 rfl) ?_
        refine lv_aload_n hx hb dX11_moreOf_203 rfl (lv_at hl 1 rfl) ?_
        refine b_get hx hb hT hK hown fl_X11_47 hw 0 0 rfl rfl (v := .ref (a (o+13))) rfl dX11_moreOf_204 ?_
        refine lv_iload_n hx hb dX11_moreOf_207 rfl (lv_at hl 2 rfl) ?_
        obtain ⟨x19, ex19, hix19, h⟩ := g_rd_some h
        refine b_iald hx hb hK hw 0 13 rfl (f := turn) rfl hix19 ex19 dX11_moreOf_208 ?_
        refine b_callS hx hb hml hown hT hK hA hw mk_X11_343 (c_X11_orNone l D g x17 x19) [] [0] rfl (by decide) rfl hl.1 [.long (f_X11_more y15 (f_X11_orNone x17 x18))] rfl (Nat.le_of_ble_eq_true rfl) ⟨Nat.le_of_ble_eq_true rfl, Nat.le_of_ble_eq_true rfl⟩ ⟨Nat.zero_le _, Nat.zero_le _⟩ dX11_moreOf_209 (wb' := [k_Model g a o pasts length printed told state backX backY boxes frees bestFree bestTurned bestFirst bestSecond v spare past kept isKept text paper left top wide high original turn boxX boxY boxW boxH freeAtX freeAtY freeW freeH begins ends tried aside]) rfl (b_e1 rfl b_e0) 1 rfl (by decide) (st2 := [.int (f_X11_orNone x17 x19), .long (f_X11_more y15 (f_X11_orNone x17 x18))]) rfl (fun H locs hw => ?_)
        refine b_callS hx hb hml hown hT hK hA hw mk_X11_339 (c_X11_more l D g (f_X11_more y15 (f_X11_orNone x17 x18)) (f_X11_orNone x17 x19)) [] [0] rfl (by decide) rfl hl.1 [] rfl (Nat.le_of_ble_eq_true rfl) ⟨Nat.le_of_ble_eq_true rfl, Nat.le_of_ble_eq_true rfl⟩ ⟨Nat.zero_le _, Nat.zero_le _⟩ dX11_moreOf_212 (wb' := [k_Model g a o pasts length printed told state backX backY boxes frees bestFree bestTurned bestFirst bestSecond v spare past kept isKept text paper left top wide high original turn boxX boxY boxW boxH freeAtX freeAtY freeW freeH begins ends tried aside]) rfl (b_e1 rfl b_e0) 1 rfl (by decide) (st2 := [.long (f_X11_more (f_X11_more y15 (f_X11_orNone x17 x18)) (f_X11_orNone x17 x19))]) rfl (fun H locs hw => ?_)
        obtain ⟨y20, ey20, h⟩ := g_bd_nm h
        refine g_topl ey20 ?_
        refine lv_lstore (lv' := [(6, .long y20), (9, .int x17), (0, .ref (a o)), (3, .int i2), (8, .int x9)]) hx hb dX11_moreOf_215 hl (by decide) rfl (fun ls hl => ?_)
        refine lv_iload hx hb dX11_moreOf_217 (lv_at hl 1 rfl) ?_
        obtain ⟨j232_21, ej232_21, h⟩ := g_jn_nm h
        have hj232_21 : ∀ (x21 : Int32) (H : Heap) (locs : List Loc) (ls : Array Slot), b_Wd D A s.heap H locs [k_Model g a o pasts length printed told state backX backY boxes frees bestFree bestTurned bestFirst bestSecond v spare past kept isKept text paper left top wide high original turn boxX boxY boxW boxH freeAtX freeAtY freeW freeH begins ends tried aside] → lv_has ls 12 [(0, .ref (a o)), (3, .int i2), (6, .long y20), (8, .int x9)] → j232_21 x21 = some u → W p l e (g_rm 4 104) s m args below meth c H locs 0 0 Q (F0 m 232 ls [.int x21]) := by
          intro x21 H locs ls hw hl h
          subst ej232_21
          dsimp only at h
          refine lv_istore (lv' := [(10, .int x21), (0, .ref (a o)), (3, .int i2), (6, .long y20), (8, .int x9)]) hx hb dX11_moreOf_232 hl (by decide) rfl (fun ls hl => ?_)
          refine lv_iload hx hb dX11_moreOf_234 (lv_at hl 4 rfl) ?_
          obtain ⟨j258_23, ej258_23, h⟩ := g_jn_nm h
          have hj258_23 : ∀ (x23 : Int32) (H : Heap) (locs : List Loc) (ls : Array Slot), b_Wd D A s.heap H locs [k_Model g a o pasts length printed told state backX backY boxes frees bestFree bestTurned bestFirst bestSecond v spare past kept isKept text paper left top wide high original turn boxX boxY boxW boxH freeAtX freeAtY freeW freeH begins ends tried aside] → lv_has ls 12 [(0, .ref (a o)), (3, .int i2), (6, .long y20), (10, .int x21)] → j258_23 x23 = some u → W p l e (g_rm 4 104) s m args below meth c H locs 0 0 Q (F0 m 258 ls [.int x23]) := by
            intro x23 H locs ls hw hl h
            subst ej258_23
            dsimp only at h
            refine lv_istore (lv' := [(11, .int x23), (0, .ref (a o)), (3, .int i2), (6, .long y20), (10, .int x21)]) hx hb dX11_moreOf_258 hl (by decide) rfl (fun ls hl => ?_)
            refine lv_lload hx hb dX11_moreOf_260 (lv_at hl 3 rfl) ?_
            refine lv_iload hx hb dX11_moreOf_262 (lv_at hl 0 rfl) ?_
            refine lv_aload_n hx hb dX11_moreOf_264 rfl (lv_at hl 1 rfl) ?_
            refine b_get hx hb hT hK hown fl_X11_7 hw 0 0 rfl rfl (v := .ref (a (o+1))) rfl dX11_moreOf_265 ?_
            refine lv_iload hx hb dX11_moreOf_268 (lv_at hl 4 rfl) ?_
            refine lv_iconst (v := 3) hx hb dX11_moreOf_270 (by decide) ?_
            refine b_callS hx hb hml hown hT hK hA hw mk_X11_94 (c_X11_at l D g x21 (3 : Int32)) [] [0] rfl (by decide) rfl hl.1 [.ref (a (o+1)), .int x23, .long y20] rfl (Nat.le_of_ble_eq_true rfl) ⟨Nat.le_of_ble_eq_true rfl, Nat.le_of_ble_eq_true rfl⟩ ⟨Nat.zero_le _, Nat.zero_le _⟩ dX11_moreOf_271 (wb' := [k_Model g a o pasts length printed told state backX backY boxes frees bestFree bestTurned bestFirst bestSecond v spare past kept isKept text paper left top wide high original turn boxX boxY boxW boxH freeAtX freeAtY freeW freeH begins ends tried aside]) rfl (b_e1 rfl b_e0) 1 rfl (by decide) (st2 := [.int (f_X11_at x21 (3 : Int32)), .ref (a (o+1)), .int x23, .long y20]) rfl (fun H locs hw => ?_)
            obtain ⟨x25, ex25, hix25, h⟩ := g_rd_some h
            refine b_iald hx hb hK hw 0 1 rfl (f := v) rfl hix25 ex25 dX11_moreOf_274 ?_
            refine b_callS hx hb hml hown hT hK hA hw mk_X11_343 (c_X11_orNone l D g x23 x25) [] [0] rfl (by decide) rfl hl.1 [.long y20] rfl (Nat.le_of_ble_eq_true rfl) ⟨Nat.le_of_ble_eq_true rfl, Nat.le_of_ble_eq_true rfl⟩ ⟨Nat.zero_le _, Nat.zero_le _⟩ dX11_moreOf_275 (wb' := [k_Model g a o pasts length printed told state backX backY boxes frees bestFree bestTurned bestFirst bestSecond v spare past kept isKept text paper left top wide high original turn boxX boxY boxW boxH freeAtX freeAtY freeW freeH begins ends tried aside]) rfl (b_e1 rfl b_e0) 1 rfl (by decide) (st2 := [.int (f_X11_orNone x23 x25), .long y20]) rfl (fun H locs hw => ?_)
            refine b_callS hx hb hml hown hT hK hA hw mk_X11_339 (c_X11_more l D g y20 (f_X11_orNone x23 x25)) [] [0] rfl (by decide) rfl hl.1 [] rfl (Nat.le_of_ble_eq_true rfl) ⟨Nat.le_of_ble_eq_true rfl, Nat.le_of_ble_eq_true rfl⟩ ⟨Nat.zero_le _, Nat.zero_le _⟩ dX11_moreOf_278 (wb' := [k_Model g a o pasts length printed told state backX backY boxes frees bestFree bestTurned bestFirst bestSecond v spare past kept isKept text paper left top wide high original turn boxX boxY boxW boxH freeAtX freeAtY freeW freeH begins ends tried aside]) rfl (b_e1 rfl b_e0) 1 rfl (by decide) (st2 := [.long (f_X11_more y20 (f_X11_orNone x23 x25))]) rfl (fun H locs hw => ?_)
            refine lv_iload hx hb dX11_moreOf_281 (lv_at hl 0 rfl) ?_
            refine lv_aload_n hx hb dX11_moreOf_283 rfl (lv_at hl 1 rfl) ?_
            refine lv_iload hx hb dX11_moreOf_284 (lv_at hl 4 rfl) ?_
            obtain ⟨r26, er26, h⟩ := g_cl_some h
            refine b_callV hx hb hml hown hT hK hA hw mk_X11_273 (c_X11_columnOf l D g a o pasts length printed told state backX backY boxes frees bestFree bestTurned bestFirst bestSecond v spare past kept isKept text paper left top wide high original turn boxX boxY boxW boxH freeAtX freeAtY freeW freeH begins ends tried aside x21 r26 er26) [0] [] rfl (by decide) 0 0 rfl rfl rfl rfl hl.1 [.int x23, .long (f_X11_more y20 (f_X11_orNone x23 x25))] rfl (Nat.le_of_ble_eq_true rfl) ⟨Nat.le_of_ble_eq_true rfl, Nat.le_of_ble_eq_true rfl⟩ ⟨Nat.zero_le _, Nat.zero_le _⟩ dX11_moreOf_286 (wb' := [k_Model g a o pasts length printed told state backX backY boxes frees bestFree bestTurned bestFirst bestSecond v spare past kept isKept text paper left top wide high original turn boxX boxY boxW boxH freeAtX freeAtY freeW freeH begins ends tried aside]) rfl b_e0 1 rfl (by decide) (st2 := [.int r26, .int x23, .long (f_X11_more y20 (f_X11_orNone x23 x25))]) rfl (fun H locs hw => ?_)
            refine b_callS hx hb hml hown hT hK hA hw mk_X11_343 (c_X11_orNone l D g x23 r26) [] [0] rfl (by decide) rfl hl.1 [.long (f_X11_more y20 (f_X11_orNone x23 x25))] rfl (Nat.le_of_ble_eq_true rfl) ⟨Nat.le_of_ble_eq_true rfl, Nat.le_of_ble_eq_true rfl⟩ ⟨Nat.zero_le _, Nat.zero_le _⟩ dX11_moreOf_289 (wb' := [k_Model g a o pasts length printed told state backX backY boxes frees bestFree bestTurned bestFirst bestSecond v spare past kept isKept text paper left top wide high original turn boxX boxY boxW boxH freeAtX freeAtY freeW freeH begins ends tried aside]) rfl (b_e1 rfl b_e0) 1 rfl (by decide) (st2 := [.int (f_X11_orNone x23 r26), .long (f_X11_more y20 (f_X11_orNone x23 x25))]) rfl (fun H locs hw => ?_)
            refine b_callS hx hb hml hown hT hK hA hw mk_X11_339 (c_X11_more l D g (f_X11_more y20 (f_X11_orNone x23 x25)) (f_X11_orNone x23 r26)) [] [0] rfl (by decide) rfl hl.1 [] rfl (Nat.le_of_ble_eq_true rfl) ⟨Nat.le_of_ble_eq_true rfl, Nat.le_of_ble_eq_true rfl⟩ ⟨Nat.zero_le _, Nat.zero_le _⟩ dX11_moreOf_292 (wb' := [k_Model g a o pasts length printed told state backX backY boxes frees bestFree bestTurned bestFirst bestSecond v spare past kept isKept text paper left top wide high original turn boxX boxY boxW boxH freeAtX freeAtY freeW freeH begins ends tried aside]) rfl (b_e1 rfl b_e0) 1 rfl (by decide) (st2 := [.long (f_X11_more (f_X11_more y20 (f_X11_orNone x23 x25)) (f_X11_orNone x23 r26))]) rfl (fun H locs hw => ?_)
            obtain ⟨y27, ey27, h⟩ := g_bd_nm h
            refine g_topl ey27 ?_
            refine lv_lstore (lv' := [(6, .long y27), (11, .int x23), (0, .ref (a o)), (3, .int i2), (10, .int x21)]) hx hb dX11_moreOf_295 hl (by decide) rfl (fun ls hl => ?_)
            refine lv_lload hx hb dX11_moreOf_297 (lv_at hl 0 rfl) ?_
            refine lv_iload hx hb dX11_moreOf_299 (lv_at hl 1 rfl) ?_
            refine lv_aload_n hx hb dX11_moreOf_301 rfl (lv_at hl 2 rfl) ?_
            refine lv_iload hx hb dX11_moreOf_302 (lv_at hl 4 rfl) ?_
            obtain ⟨r28, er28, h⟩ := g_cl_some h
            refine b_callV hx hb hml hown hT hK hA hw mk_X11_276 (c_X11_rowOf l D g a o pasts length printed told state backX backY boxes frees bestFree bestTurned bestFirst bestSecond v spare past kept isKept text paper left top wide high original turn boxX boxY boxW boxH freeAtX freeAtY freeW freeH begins ends tried aside x21 r28 er28) [0] [] rfl (by decide) 0 0 rfl rfl rfl rfl hl.1 [.int x23, .long y27] rfl (Nat.le_of_ble_eq_true rfl) ⟨Nat.le_of_ble_eq_true rfl, Nat.le_of_ble_eq_true rfl⟩ ⟨Nat.zero_le _, Nat.zero_le _⟩ dX11_moreOf_304 (wb' := [k_Model g a o pasts length printed told state backX backY boxes frees bestFree bestTurned bestFirst bestSecond v spare past kept isKept text paper left top wide high original turn boxX boxY boxW boxH freeAtX freeAtY freeW freeH begins ends tried aside]) rfl b_e0 1 rfl (by decide) (st2 := [.int r28, .int x23, .long y27]) rfl (fun H locs hw => ?_)
            refine b_callS hx hb hml hown hT hK hA hw mk_X11_343 (c_X11_orNone l D g x23 r28) [] [0] rfl (by decide) rfl hl.1 [.long y27] rfl (Nat.le_of_ble_eq_true rfl) ⟨Nat.le_of_ble_eq_true rfl, Nat.le_of_ble_eq_true rfl⟩ ⟨Nat.zero_le _, Nat.zero_le _⟩ dX11_moreOf_307 (wb' := [k_Model g a o pasts length printed told state backX backY boxes frees bestFree bestTurned bestFirst bestSecond v spare past kept isKept text paper left top wide high original turn boxX boxY boxW boxH freeAtX freeAtY freeW freeH begins ends tried aside]) rfl (b_e1 rfl b_e0) 1 rfl (by decide) (st2 := [.int (f_X11_orNone x23 r28), .long y27]) rfl (fun H locs hw => ?_)
            refine b_callS hx hb hml hown hT hK hA hw mk_X11_339 (c_X11_more l D g y27 (f_X11_orNone x23 r28)) [] [0] rfl (by decide) rfl hl.1 [] rfl (Nat.le_of_ble_eq_true rfl) ⟨Nat.le_of_ble_eq_true rfl, Nat.le_of_ble_eq_true rfl⟩ ⟨Nat.zero_le _, Nat.zero_le _⟩ dX11_moreOf_310 (wb' := [k_Model g a o pasts length printed told state backX backY boxes frees bestFree bestTurned bestFirst bestSecond v spare past kept isKept text paper left top wide high original turn boxX boxY boxW boxH freeAtX freeAtY freeW freeH begins ends tried aside]) rfl (b_e1 rfl b_e0) 1 rfl (by decide) (st2 := [.long (f_X11_more y27 (f_X11_orNone x23 r28))]) rfl (fun H locs hw => ?_)
            refine lv_iload hx hb dX11_moreOf_313 (lv_at hl 1 rfl) ?_
            refine lv_aload_n hx hb dX11_moreOf_315 rfl (lv_at hl 2 rfl) ?_
            refine b_get hx hb hT hK hown fl_X11_7 hw 0 0 rfl rfl (v := .ref (a (o+1))) rfl dX11_moreOf_316 ?_
            refine lv_iload hx hb dX11_moreOf_319 (lv_at hl 4 rfl) ?_
            refine lv_bipush (v := 6) hx hb dX11_moreOf_321 (by decide) ?_
            refine b_callS hx hb hml hown hT hK hA hw mk_X11_94 (c_X11_at l D g x21 (6 : Int32)) [] [0] rfl (by decide) rfl hl.1 [.ref (a (o+1)), .int x23, .long (f_X11_more y27 (f_X11_orNone x23 r28))] rfl (Nat.le_of_ble_eq_true rfl) ⟨Nat.le_of_ble_eq_true rfl, Nat.le_of_ble_eq_true rfl⟩ ⟨Nat.zero_le _, Nat.zero_le _⟩ dX11_moreOf_323 (wb' := [k_Model g a o pasts length printed told state backX backY boxes frees bestFree bestTurned bestFirst bestSecond v spare past kept isKept text paper left top wide high original turn boxX boxY boxW boxH freeAtX freeAtY freeW freeH begins ends tried aside]) rfl (b_e1 rfl b_e0) 1 rfl (by decide) (st2 := [.int (f_X11_at x21 (6 : Int32)), .ref (a (o+1)), .int x23, .long (f_X11_more y27 (f_X11_orNone x23 r28))]) rfl (fun H locs hw => ?_)
            obtain ⟨x29, ex29, hix29, h⟩ := g_rd_some h
            refine b_iald hx hb hK hw 0 1 rfl (f := v) rfl hix29 ex29 dX11_moreOf_326 ?_
            refine b_callS hx hb hml hown hT hK hA hw mk_X11_343 (c_X11_orNone l D g x23 x29) [] [0] rfl (by decide) rfl hl.1 [.long (f_X11_more y27 (f_X11_orNone x23 r28))] rfl (Nat.le_of_ble_eq_true rfl) ⟨Nat.le_of_ble_eq_true rfl, Nat.le_of_ble_eq_true rfl⟩ ⟨Nat.zero_le _, Nat.zero_le _⟩ dX11_moreOf_327 (wb' := [k_Model g a o pasts length printed told state backX backY boxes frees bestFree bestTurned bestFirst bestSecond v spare past kept isKept text paper left top wide high original turn boxX boxY boxW boxH freeAtX freeAtY freeW freeH begins ends tried aside]) rfl (b_e1 rfl b_e0) 1 rfl (by decide) (st2 := [.int (f_X11_orNone x23 x29), .long (f_X11_more y27 (f_X11_orNone x23 r28))]) rfl (fun H locs hw => ?_)
            refine b_callS hx hb hml hown hT hK hA hw mk_X11_339 (c_X11_more l D g (f_X11_more y27 (f_X11_orNone x23 r28)) (f_X11_orNone x23 x29)) [] [0] rfl (by decide) rfl hl.1 [] rfl (Nat.le_of_ble_eq_true rfl) ⟨Nat.le_of_ble_eq_true rfl, Nat.le_of_ble_eq_true rfl⟩ ⟨Nat.zero_le _, Nat.zero_le _⟩ dX11_moreOf_330 (wb' := [k_Model g a o pasts length printed told state backX backY boxes frees bestFree bestTurned bestFirst bestSecond v spare past kept isKept text paper left top wide high original turn boxX boxY boxW boxH freeAtX freeAtY freeW freeH begins ends tried aside]) rfl (b_e1 rfl b_e0) 1 rfl (by decide) (st2 := [.long (f_X11_more (f_X11_more y27 (f_X11_orNone x23 r28)) (f_X11_orNone x23 x29))]) rfl (fun H locs hw => ?_)
            obtain ⟨y30, ey30, h⟩ := g_bd_nm h
            refine g_topl ey30 ?_
            refine lv_lstore (lv' := [(6, .long y30), (11, .int x23), (0, .ref (a o)), (3, .int i2), (10, .int x21)]) hx hb dX11_moreOf_333 hl (by decide) rfl (fun ls hl => ?_)
            refine lv_lload hx hb dX11_moreOf_335 (lv_at hl 0 rfl) ?_
            refine lv_iload hx hb dX11_moreOf_337 (lv_at hl 1 rfl) ?_
            obtain ⟨j354_33, ej354_33, h⟩ := g_jn_nm h
            have hj354_33 : ∀ (x31 : Int32) (x32 : Int32) (x33 : Int32) (H : Heap) (locs : List Loc) (ls : Array Slot), b_Wd D A s.heap H locs [k_Model g a o pasts length printed told state x32 x33 boxes frees bestFree bestTurned bestFirst bestSecond v spare past kept isKept text paper left top wide high original turn boxX boxY boxW boxH freeAtX freeAtY freeW freeH begins ends tried aside] → lv_has ls 12 [] → j354_33 x31 x32 x33 = some u → W p l e (g_rm 4 104) s m args below meth c H locs 0 0 Q (F0 m 354 ls [.int x31, .long y30]) := by
              intro x31 x32 x33 H locs ls hw hl h
              subst ej354_33
              dsimp only at h
              refine b_callS hx hb hml hown hT hK hA hw mk_X11_339 (c_X11_more l D g y30 x31) [] [0] rfl (by decide) rfl hl.1 [] rfl (Nat.le_of_ble_eq_true rfl) ⟨Nat.le_of_ble_eq_true rfl, Nat.le_of_ble_eq_true rfl⟩ ⟨Nat.zero_le _, Nat.zero_le _⟩ dX11_moreOf_354 (wb' := [k_Model g a o pasts length printed told state x32 x33 boxes frees bestFree bestTurned bestFirst bestSecond v spare past kept isKept text paper left top wide high original turn boxX boxY boxW boxH freeAtX freeAtY freeW freeH begins ends tried aside]) rfl (b_e1 rfl b_e0) 1 rfl (by decide) (st2 := [.long (f_X11_more y30 x31)]) rfl (fun H locs hw => ?_)
              obtain rfl := Option.some.inj h
              exact b_lret hQ hx hb hr hlk hw rfl dX11_moreOf_357
            refine lv_if_eq (tgt := 352) hx hb dX11_moreOf_339 (by decide) (fun hc339 => ?_) (fun hc339 => ?_)
            · rw [if_pos hc339] at h
              refine lv_bipush (v := -4) hx hb dX11_moreOf_352 (by decide) ?_
              exact hj354_33 (-4 : Int32) backX backY _ _ _ hw (lv_sub hl [] rfl) h
            · rw [if_neg hc339] at h
              refine lv_aload_n hx hb dX11_moreOf_342 rfl (lv_at hl 2 rfl) ?_
              refine lv_iload_n hx hb dX11_moreOf_343 rfl (lv_at hl 3 rfl) ?_
              refine lv_iload hx hb dX11_moreOf_344 (lv_at hl 4 rfl) ?_
              obtain ⟨r35, er35, h⟩ := g_cl_some h
              refine b_callV hx hb hml hown hT hK hA hw mk_X11_279 (c_X11_record l D g a o pasts length printed told state backX backY boxes frees bestFree bestTurned bestFirst bestSecond v spare past kept isKept text paper left top wide high original turn boxX boxY boxW boxH freeAtX freeAtY freeW freeH begins ends tried aside i2 x21 r35 er35) [0] [] rfl (by decide) 0 0 rfl rfl rfl rfl hl.1 [.long y30] rfl (Nat.le_of_ble_eq_true rfl) ⟨Nat.le_of_ble_eq_true rfl, Nat.le_of_ble_eq_true rfl⟩ ⟨Nat.zero_le _, Nat.zero_le _⟩ dX11_moreOf_346 (wb' := [k_Model g a o pasts length printed told state r35.2.1 r35.2.2 boxes frees bestFree bestTurned bestFirst bestSecond v spare past kept isKept text paper left top wide high original turn boxX boxY boxW boxH freeAtX freeAtY freeW freeH begins ends tried aside]) rfl b_e0 1 rfl (by decide) (st2 := [.int r35.1, .long y30]) rfl (fun H locs hw => ?_)
              refine lv_goto (tgt := 354) hx hb dX11_moreOf_349 (by decide) ?_
              exact hj354_33 r35.1 r35.2.1 r35.2.2 _ _ _ hw (lv_sub hl [] rfl) h
          obtain ⟨j257_35, ej257_35, h⟩ := g_jn_nm h
          have hj257_35 : ∀ (H : Heap) (locs : List Loc) (ls : Array Slot), b_Wd D A s.heap H locs [k_Model g a o pasts length printed told state backX backY boxes frees bestFree bestTurned bestFirst bestSecond v spare past kept isKept text paper left top wide high original turn boxX boxY boxW boxH freeAtX freeAtY freeW freeH begins ends tried aside] → lv_has ls 12 [(0, .ref (a o)), (3, .int i2), (6, .long y20), (10, .int x21)] → j257_35 = some u → W p l e (g_rm 4 104) s m args below meth c H locs 0 0 Q (F0 m 257 ls []) := by
            intro  H locs ls hw hl h
            subst ej257_35
            refine lv_iconst (v := 0) hx hb dX11_moreOf_257 (by decide) ?_
            exact hj258_23 (0 : Int32) _ _ _ hw (lv_sub hl [0, 1, 2, 3] rfl) h
          refine lv_if_eq (tgt := 257) hx hb dX11_moreOf_236 (by decide) (fun hc236 => ?_) (fun hc236 => ?_)
          · rw [if_pos hc236] at h
            exact hj257_35  _ _ _ hw (lv_sub hl [1, 2, 3, 0] rfl) h
          · rw [if_neg hc236] at h
            refine lv_aload_n hx hb dX11_moreOf_239 rfl (lv_at hl 1 rfl) ?_
            refine b_get hx hb hT hK hown fl_X11_7 hw 0 0 rfl rfl (v := .ref (a (o+1))) rfl dX11_moreOf_240 ?_
            refine lv_iload hx hb dX11_moreOf_243 (lv_at hl 0 rfl) ?_
            refine lv_iconst (v := 3) hx hb dX11_moreOf_245 (by decide) ?_
            refine b_callS hx hb hml hown hT hK hA hw mk_X11_94 (c_X11_at l D g x21 (3 : Int32)) [] [0] rfl (by decide) rfl hl.1 [.ref (a (o+1))] rfl (Nat.le_of_ble_eq_true rfl) ⟨Nat.le_of_ble_eq_true rfl, Nat.le_of_ble_eq_true rfl⟩ ⟨Nat.zero_le _, Nat.zero_le _⟩ dX11_moreOf_246 (wb' := [k_Model g a o pasts length printed told state backX backY boxes frees bestFree bestTurned bestFirst bestSecond v spare past kept isKept text paper left top wide high original turn boxX boxY boxW boxH freeAtX freeAtY freeW freeH begins ends tried aside]) rfl (b_e1 rfl b_e0) 1 rfl (by decide) (st2 := [.int (f_X11_at x21 (3 : Int32)), .ref (a (o+1))]) rfl (fun H locs hw => ?_)
            obtain ⟨x37, ex37, hix37, h⟩ := g_rd_some h
            refine b_iald hx hb hK hw 0 1 rfl (f := v) rfl hix37 ex37 dX11_moreOf_249 ?_
            refine lv_if_lt (tgt := 257) hx hb dX11_moreOf_250 (by decide) (fun hc250 => ?_) (fun hc250 => ?_)
            · rw [if_pos hc250] at h
              exact hj257_35  _ _ _ hw (lv_sub hl [1, 2, 3, 0] rfl) h
            · rw [if_neg hc250] at h
              refine lv_iconst (v := 1) hx hb dX11_moreOf_253 (by decide) ?_
              refine lv_goto (tgt := 258) hx hb dX11_moreOf_254 (by decide) ?_
              exact hj258_23 (1 : Int32) _ _ _ hw (lv_sub hl [1, 2, 3, 0] rfl) h
        refine lv_if_eq (tgt := 231) hx hb dX11_moreOf_219 (by decide) (fun hc219 => ?_) (fun hc219 => ?_)
        · rw [if_pos hc219] at h
          refine lv_iload_n hx hb dX11_moreOf_231 rfl (lv_at hl 3 rfl) ?_
          exact hj232_21 i2 _ _ _ hw (lv_sub hl [2, 3, 0, 4] rfl) h
        · rw [if_neg hc219] at h
          refine lv_aload_n hx hb dX11_moreOf_222 rfl (lv_at hl 2 rfl) ?_
          refine b_get hx hb hT hK hown fl_X11_44 hw 0 0 rfl rfl (v := .ref (a (o+12))) rfl dX11_moreOf_223 ?_
          refine lv_iload_n hx hb dX11_moreOf_226 rfl (lv_at hl 3 rfl) ?_
          obtain ⟨x38, ex38, hix38, h⟩ := g_rd_some h
          refine b_iald hx hb hK hw 0 12 rfl (f := original) rfl hix38 ex38 dX11_moreOf_227 ?_
          refine lv_goto (tgt := 232) hx hb dX11_moreOf_228 (by decide) ?_
          exact hj232_21 x38 _ _ _ hw (lv_sub hl [2, 3, 0, 4] rfl) h
      refine lv_if_lt (tgt := 182) hx hb dX11_moreOf_175 (by decide) (fun hc175 => ?_) (fun hc175 => ?_)
      · rw [if_pos hc175] at h
        refine lv_iconst (v := 0) hx hb dX11_moreOf_182 (by decide) ?_
        exact hj183_17 (0 : Int32) _ _ _ hw (lv_sub hl [2, 3, 0, 1] rfl) h
      · rw [if_neg hc175] at h
        refine lv_iconst (v := 1) hx hb dX11_moreOf_178 (by decide) ?_
        refine lv_goto (tgt := 183) hx hb dX11_moreOf_179 (by decide) ?_
        exact hj183_17 (1 : Int32) _ _ _ hw (lv_sub hl [2, 3, 0, 1] rfl) h
    refine lv_if_le (tgt := 112) hx hb dX11_moreOf_105 (by decide) (fun hc105 => ?_) (fun hc105 => ?_)
    · rw [if_pos hc105] at h
      refine lv_iconst (v := 0) hx hb dX11_moreOf_112 (by decide) ?_
      exact hj113_9 (0 : Int32) _ _ _ hw (lv_sub hl [1, 2, 0] rfl) h
    · rw [if_neg hc105] at h
      refine lv_iconst (v := 1) hx hb dX11_moreOf_108 (by decide) ?_
      refine lv_goto (tgt := 113) hx hb dX11_moreOf_109 (by decide) ?_
      exact hj113_9 (1 : Int32) _ _ _ hw (lv_sub hl [1, 2, 0] rfl) h
  have hL40 : ∀ (n : Nat) (y39 : Int64) (x40 : Int32) (H : Heap) (locs : List Loc) (ls : Array Slot), b_Wd D A s.heap H locs [k_Model g a o pasts length printed told state backX backY boxes frees bestFree bestTurned bestFirst bestSecond v spare past kept isKept text paper left top wide high original turn boxX boxY boxW boxH freeAtX freeAtY freeW freeH begins ends tried aside] → lv_has ls 12 [(0, .ref (a o)), (3, .int i2), (4, .int x1), (5, .int x2), (6, .long y39), (8, .int x40)] → f_X11_moreOf_L40 v i2 x1 x2 k82_4 n y39 x40 = some u → W p l e (g_rm 4 104) s m args below meth c H locs 0 0 Q (F0 m 40 ls []) := by
    intro n
    induction n with
    | zero =>
      intro y39 x40 H locs ls hw hl h
      cases (show none = some u from h)
    | succ n ih40 =>
      intro y39 x40 H locs ls hw hl h
      rw [f_X11_moreOf_L40] at h
      refine lv_iload hx hb dX11_moreOf_40 (lv_at hl 5 rfl) ?_
      refine lv_iload hx hb dX11_moreOf_42 (lv_at hl 2 rfl) ?_
      refine lv_iload hx hb dX11_moreOf_44 (lv_at hl 3 rfl) ?_
      refine lv_imul hx hb dX11_moreOf_46 ?_
      refine lv_icmp_ge (tgt := 82) hx hb dX11_moreOf_47 (by decide) (fun hc47 => ?_) (fun hc47 => ?_)
      · rw [if_pos hc47] at h
        exact hk82_4 y39 _ _ _ hw (lv_sub hl [0, 1, 4] rfl) h
      · rw [if_neg hc47] at h
        refine lv_lload hx hb dX11_moreOf_50 (lv_at hl 4 rfl) ?_
        refine lv_aload_n hx hb dX11_moreOf_52 rfl (lv_at hl 0 rfl) ?_
        refine b_get hx hb hT hK hown fl_X11_7 hw 0 0 rfl rfl (v := .ref (a (o+1))) rfl dX11_moreOf_53 ?_
        refine lv_iload_n hx hb dX11_moreOf_56 rfl (lv_at hl 1 rfl) ?_
        refine lv_iload hx hb dX11_moreOf_57 (lv_at hl 5 rfl) ?_
        refine lv_iload hx hb dX11_moreOf_59 (lv_at hl 2 rfl) ?_
        obtain ⟨z41, h⟩ := g_nz_some h
        refine g_irem hx hb dX11_moreOf_61 z41 ?_
        refine lv_iload hx hb dX11_moreOf_62 (lv_at hl 5 rfl) ?_
        refine lv_iload hx hb dX11_moreOf_64 (lv_at hl 2 rfl) ?_
        obtain ⟨z42, h⟩ := g_nz_some h
        refine lv_idiv hx hb dX11_moreOf_66 z42 ?_
        refine b_callS hx hb hml hown hT hK hA hw mk_X11_118 (c_X11_pixelAt l D g i2 (g_rem x40 x1) (x40 / x1)) [] [0] rfl (by decide) rfl hl.1 [.ref (a (o+1)), .long y39] rfl (Nat.le_of_ble_eq_true rfl) ⟨Nat.le_of_ble_eq_true rfl, Nat.le_of_ble_eq_true rfl⟩ ⟨Nat.zero_le _, Nat.zero_le _⟩ dX11_moreOf_67 (wb' := [k_Model g a o pasts length printed told state backX backY boxes frees bestFree bestTurned bestFirst bestSecond v spare past kept isKept text paper left top wide high original turn boxX boxY boxW boxH freeAtX freeAtY freeW freeH begins ends tried aside]) rfl (b_e1 rfl b_e0) 1 rfl (by decide) (st2 := [.int (f_X11_pixelAt i2 (g_rem x40 x1) (x40 / x1)), .ref (a (o+1)), .long y39]) rfl (fun H locs hw => ?_)
        obtain ⟨x43, ex43, hix43, h⟩ := g_rd_some h
        refine b_iald hx hb hK hw 0 1 rfl (f := v) rfl hix43 ex43 dX11_moreOf_70 ?_
        refine b_callS hx hb hml hown hT hK hA hw mk_X11_339 (c_X11_more l D g y39 x43) [] [0] rfl (by decide) rfl hl.1 [] rfl (Nat.le_of_ble_eq_true rfl) ⟨Nat.le_of_ble_eq_true rfl, Nat.le_of_ble_eq_true rfl⟩ ⟨Nat.zero_le _, Nat.zero_le _⟩ dX11_moreOf_71 (wb' := [k_Model g a o pasts length printed told state backX backY boxes frees bestFree bestTurned bestFirst bestSecond v spare past kept isKept text paper left top wide high original turn boxX boxY boxW boxH freeAtX freeAtY freeW freeH begins ends tried aside]) rfl (b_e1 rfl b_e0) 1 rfl (by decide) (st2 := [.long (f_X11_more y39 x43)]) rfl (fun H locs hw => ?_)
        obtain ⟨y44, ey44, h⟩ := g_bd_nm h
        refine g_topl ey44 ?_
        refine lv_lstore (lv' := [(6, .long y44), (0, .ref (a o)), (3, .int i2), (4, .int x1), (5, .int x2), (8, .int x40)]) hx hb dX11_moreOf_74 hl (by decide) rfl (fun ls hl => ?_)
        obtain ⟨x45, ex45, h⟩ := g_bd_nm h
        refine lv_iinc (v := x45) (lv' := [(8, .int x45), (6, .long y44), (0, .ref (a o)), (3, .int i2), (4, .int x1), (5, .int x2)]) hx hb dX11_moreOf_76 hl (k := 5) rfl (by rw [ex45]; rfl) (by decide) rfl (fun ls hl => ?_)
        refine lv_goto (tgt := 40) hx hb dX11_moreOf_79 (by decide) ?_
        exact ih40 y44 x45 _ _ _ hw (lv_sub hl [2, 3, 4, 5, 1, 0] rfl) h
  exact hL40 g_fuel y3 (0 : Int32) _ _ _ hw (lv_sub hl [4, 6, 3, 2, 1, 0] rfl) h
