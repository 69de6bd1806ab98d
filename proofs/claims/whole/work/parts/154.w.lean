set_option maxRecDepth 100000 in
set_option maxHeartbeats 4000000 in
theorem c_X11_used (l : Launch) (D : va_G) (g : Nat → ClassId) (a : Nat → Nat) (o : Nat) (pasts : Int32) (length : Int32) (printed : Int32) (told : Int32) (state : Int64) (backX : Int32) (backY : Int32) (boxes : Int32) (frees : Int32) (bestFree : Int32) (bestTurned : Int32) (bestFirst : Int32) (bestSecond : Int32) (v : (Nat → Int32)) (spare : (Nat → Int32)) (past : (Nat → Int32)) (kept : (Nat → Int32)) (isKept : (Nat → Int32)) (text : (Nat → Int32)) (paper : (Nat → Int32)) (left : (Nat → Int32)) (top : (Nat → Int32)) (wide : (Nat → Int32)) (high : (Nat → Int32)) (original : (Nat → Int32)) (turn : (Nat → Int32)) (boxX : (Nat → Int32)) (boxY : (Nat → Int32)) (boxW : (Nat → Int32)) (boxH : (Nat → Int32)) (freeAtX : (Nat → Int32)) (freeAtY : (Nat → Int32)) (freeW : (Nat → Int32)) (freeH : (Nat → Int32)) (begins : (Nat → Int32)) (ends : (Nat → Int32)) (tried : (Nat → Int32)) (aside : (Nat → Int32)) (i1 : Int32) (i2 : Int32) (u : Int32) (h : f_X11_used v wide high i1 i2 = some u) : b_Ct l yX11_used cX11_used 7 (some .int) 2 42 D g [.ref (a o), .int i1, .int i2] [k_Model g a o pasts length printed told state backX backY boxes frees bestFree bestTurned bestFirst bestSecond v spare past kept isKept text paper left top wide high original turn boxX boxY boxW boxH freeAtX freeAtY freeW freeH begins ends tried aside] [k_Model g a o pasts length printed told state backX backY boxes frees bestFree bestTurned bestFirst bestSecond v spare past kept isKept text paper left top wide high original turn boxX boxY boxW boxH freeAtX freeAtY freeW freeH begins ends tried aside] (some (.int u)) := by
  refine b_start RX11 (by decide) rfl (Nat.le_of_ble_eq_true rfl) rfl ?_
  intro p e s m args below meth c A ls Q hQ hx hb hr hlk hml hown hT hK hA hw hl
  have hl : lv_has ls 7 [(0, .ref (a o)), (1, .int i1), (2, .int i2)] := hl
  unfold f_X11_used at h
  refine lv_aload_n hx hb dX11_used_0 rfl (lv_at hl 0 rfl) ?_
  refine b_get hx hb hT hK hown fl_X11_7 hw 0 0 rfl rfl (v := .ref (a (o+1))) rfl dX11_used_1 ?_
  refine lv_iconst (v := 5) hx hb dX11_used_4 (by decide) ?_
  obtain ⟨x1, ex1, hix1, h⟩ := g_rd_some h
  refine b_iald hx hb hK hw 0 1 rfl (f := v) rfl hix1 ex1 dX11_used_5 ?_
  refine lv_istore_n (lv' := [(3, .int x1), (0, .ref (a o)), (1, .int i1), (2, .int i2)]) hx hb dX11_used_6 rfl hl (by decide) rfl (fun ls hl => ?_)
  refine lv_iconst (v := 0) hx hb dX11_used_7 (by decide) ?_
  refine lv_istore (lv' := [(4, .int (0 : Int32)), (3, .int x1), (0, .ref (a o)), (1, .int i1), (2, .int i2)]) hx hb dX11_used_8 hl (by decide) rfl (fun ls hl => ?_)
  obtain ⟨k124_2, ek124_2, h⟩ := g_jn_nm h
  have hk124_2 : ∀ (x2 : Int32) (H : Heap) (locs : List Loc) (ls : Array Slot), b_Wd D A s.heap H locs [k_Model g a o pasts length printed told state backX backY boxes frees bestFree bestTurned bestFirst bestSecond v spare past kept isKept text paper left top wide high original turn boxX boxY boxW boxH freeAtX freeAtY freeW freeH begins ends tried aside] → lv_has ls 7 [(0, .ref (a o)), (3, .int x2)] → k124_2 x2 = some u → W p l e (g_rm 2 42) s m args below meth c H locs 0 0 Q (F0 m 124 ls []) := by
    intro x2 H locs ls hw hl h
    subst ek124_2
    dsimp only at h
    refine lv_iload_n hx hb dX11_used_124 rfl (lv_at hl 1 rfl) ?_
    refine lv_aload_n hx hb dX11_used_125 rfl (lv_at hl 0 rfl) ?_
    refine b_get hx hb hT hK hown fl_X11_7 hw 0 0 rfl rfl (v := .ref (a (o+1))) rfl dX11_used_126 ?_
    refine lv_iconst (v := 5) hx hb dX11_used_129 (by decide) ?_
    obtain ⟨x4, ex4, hix4, h⟩ := g_rd_some h
    refine b_iald hx hb hK hw 0 1 rfl (f := v) rfl hix4 ex4 dX11_used_130 ?_
    refine lv_iadd hx hb dX11_used_131 ?_
    obtain rfl := Option.some.inj h
    exact b_iret hQ hx hb hr hlk hw rfl dX11_used_132
  have hL10 : ∀ (n : Nat) (x5 : Int32) (x6 : Int32) (H : Heap) (locs : List Loc) (ls : Array Slot), b_Wd D A s.heap H locs [k_Model g a o pasts length printed told state backX backY boxes frees bestFree bestTurned bestFirst bestSecond v spare past kept isKept text paper left top wide high original turn boxX boxY boxW boxH freeAtX freeAtY freeW freeH begins ends tried aside] → lv_has ls 7 [(0, .ref (a o)), (1, .int i1), (2, .int i2), (3, .int x5), (4, .int x6)] → f_X11_used_L10 v wide high i1 i2 k124_2 n x5 x6 = some u → W p l e (g_rm 2 42) s m args below meth c H locs 0 0 Q (F0 m 10 ls []) := by
    intro n
    induction n with
    | zero =>
      intro x5 x6 H locs ls hw hl h
      cases (show none = some u from h)
    | succ n ih10 =>
      intro x5 x6 H locs ls hw hl h
      rw [f_X11_used_L10] at h
      refine lv_iload hx hb dX11_used_10 (lv_at hl 4 rfl) ?_
      refine lv_aload_n hx hb dX11_used_12 rfl (lv_at hl 0 rfl) ?_
      refine b_get hx hb hT hK hown fl_X11_7 hw 0 0 rfl rfl (v := .ref (a (o+1))) rfl dX11_used_13 ?_
      refine lv_iconst (v := 0) hx hb dX11_used_16 (by decide) ?_
      obtain ⟨x7, ex7, hix7, h⟩ := g_rd_some h
      refine b_iald hx hb hK hw 0 1 rfl (f := v) rfl hix7 ex7 dX11_used_17 ?_
      refine lv_icmp_ge (tgt := 124) hx hb dX11_used_18 (by decide) (fun hc18 => ?_) (fun hc18 => ?_)
      · rw [if_pos hc18] at h
        exact hk124_2 x5 _ _ _ hw (lv_sub hl [0, 3] rfl) h
      · rw [if_neg hc18] at h
        refine lv_aload_n hx hb dX11_used_21 rfl (lv_at hl 0 rfl) ?_
        refine b_get hx hb hT hK hown fl_X11_7 hw 0 0 rfl rfl (v := .ref (a (o+1))) rfl dX11_used_22 ?_
        refine lv_iload hx hb dX11_used_25 (lv_at hl 4 rfl) ?_
        refine lv_iconst (v := 3) hx hb dX11_used_27 (by decide) ?_
        refine b_callS hx hb hml hown hT hK hA hw mk_X11_94 (c_X11_at l D g x6 (3 : Int32)) [] [0] rfl (by decide) rfl hl.1 [.ref (a (o+1))] rfl (Nat.le_of_ble_eq_true rfl) ⟨Nat.le_of_ble_eq_true rfl, Nat.le_of_ble_eq_true rfl⟩ ⟨Nat.zero_le _, Nat.zero_le _⟩ dX11_used_28 (wb' := [k_Model g a o pasts length printed told state backX backY boxes frees bestFree bestTurned bestFirst bestSecond v spare past kept isKept text paper left top wide high original turn boxX boxY boxW boxH freeAtX freeAtY freeW freeH begins ends tried aside]) rfl (b_e1 rfl b_e0) 1 rfl (by decide) (st2 := [.int (f_X11_at x6 (3 : Int32)), .ref (a (o+1))]) rfl (fun H locs hw => ?_)
        obtain ⟨x8, ex8, hix8, h⟩ := g_rd_some h
        refine b_iald hx hb hK hw 0 1 rfl (f := v) rfl hix8 ex8 dX11_used_31 ?_
        refine lv_iload_n hx hb dX11_used_32 rfl (lv_at hl 1 rfl) ?_
        obtain ⟨j118_9, ej118_9, h⟩ := g_jn_nm h
        have hj118_9 : ∀ (x9 : Int32) (H : Heap) (locs : List Loc) (ls : Array Slot), b_Wd D A s.heap H locs [k_Model g a o pasts length printed told state backX backY boxes frees bestFree bestTurned bestFirst bestSecond v spare past kept isKept text paper left top wide high original turn boxX boxY boxW boxH freeAtX freeAtY freeW freeH begins ends tried aside] → lv_has ls 7 [(0, .ref (a o)), (1, .int i1), (2, .int i2), (3, .int x9), (4, .int x6)] → j118_9 x9 = some u → W p l e (g_rm 2 42) s m args below meth c H locs 0 0 Q (F0 m 118 ls []) := by
          intro x9 H locs ls hw hl h
          subst ej118_9
          dsimp only at h
          obtain ⟨x11, ex11, h⟩ := g_bd_nm h
          refine lv_iinc (v := x11) (lv' := [(4, .int x11), (0, .ref (a o)), (1, .int i1), (2, .int i2), (3, .int x9)]) hx hb dX11_used_118 hl (k := 4) rfl (by rw [ex11]; rfl) (by decide) rfl (fun ls hl => ?_)
          refine lv_goto (tgt := 10) hx hb dX11_used_121 (by decide) ?_
          exact ih10 x9 x11 _ _ _ hw (lv_sub hl [1, 2, 3, 4, 0] rfl) h
        refine lv_icmp_ne (tgt := 118) hx hb dX11_used_33 (by decide) (fun hc33 => ?_) (fun hc33 => ?_)
        · rw [if_neg hc33] at h
          exact hj118_9 x5 _ _ _ hw (lv_sub hl [0, 1, 2, 3, 4] rfl) h
        · rw [if_pos hc33] at h
          refine lv_aload_n hx hb dX11_used_36 rfl (lv_at hl 0 rfl) ?_
          refine b_get hx hb hT hK hown fl_X11_7 hw 0 0 rfl rfl (v := .ref (a (o+1))) rfl dX11_used_37 ?_
          refine lv_iload hx hb dX11_used_40 (lv_at hl 4 rfl) ?_
          refine lv_bipush (v := 6) hx hb dX11_used_42 (by decide) ?_
          refine b_callS hx hb hml hown hT hK hA hw mk_X11_94 (c_X11_at l D g x6 (6 : Int32)) [] [0] rfl (by decide) rfl hl.1 [.ref (a (o+1))] rfl (Nat.le_of_ble_eq_true rfl) ⟨Nat.le_of_ble_eq_true rfl, Nat.le_of_ble_eq_true rfl⟩ ⟨Nat.zero_le _, Nat.zero_le _⟩ dX11_used_44 (wb' := [k_Model g a o pasts length printed told state backX backY boxes frees bestFree bestTurned bestFirst bestSecond v spare past kept isKept text paper left top wide high original turn boxX boxY boxW boxH freeAtX freeAtY freeW freeH begins ends tried aside]) rfl (b_e1 rfl b_e0) 1 rfl (by decide) (st2 := [.int (f_X11_at x6 (6 : Int32)), .ref (a (o+1))]) rfl (fun H locs hw => ?_)
          obtain ⟨x12, ex12, hix12, h⟩ := g_rd_some h
          refine b_iald hx hb hK hw 0 1 rfl (f := v) rfl hix12 ex12 dX11_used_47 ?_
          refine lv_istore (lv' := [(5, .int x12), (0, .ref (a o)), (1, .int i1), (2, .int i2), (3, .int x5), (4, .int x6)]) hx hb dX11_used_48 hl (by decide) rfl (fun ls hl => ?_)
          refine lv_iload_n hx hb dX11_used_50 rfl (lv_at hl 3 rfl) ?_
          obtain ⟨j87_13, ej87_13, h⟩ := g_jn_nm h
          have hj87_13 : ∀ (x13 : Int32) (H : Heap) (locs : List Loc) (ls : Array Slot), b_Wd D A s.heap H locs [k_Model g a o pasts length printed told state backX backY boxes frees bestFree bestTurned bestFirst bestSecond v spare past kept isKept text paper left top wide high original turn boxX boxY boxW boxH freeAtX freeAtY freeW freeH begins ends tried aside] → lv_has ls 7 [(0, .ref (a o)), (1, .int i1), (2, .int i2), (3, .int x5), (4, .int x6)] → j87_13 x13 = some u → W p l e (g_rm 2 42) s m args below meth c H locs 0 0 Q (F0 m 87 ls [.int x13]) := by
            intro x13 H locs ls hw hl h
            subst ej87_13
            dsimp only at h
            refine lv_istore (lv' := [(6, .int x13), (0, .ref (a o)), (1, .int i1), (2, .int i2), (3, .int x5), (4, .int x6)]) hx hb dX11_used_87 hl (by decide) rfl (fun ls hl => ?_)
            refine lv_iload hx hb dX11_used_89 (lv_at hl 0 rfl) ?_
            refine lv_aload_n hx hb dX11_used_91 rfl (lv_at hl 1 rfl) ?_
            refine b_get hx hb hT hK hown fl_X11_7 hw 0 0 rfl rfl (v := .ref (a (o+1))) rfl dX11_used_92 ?_
            refine lv_bipush (v := 6) hx hb dX11_used_95 (by decide) ?_
            obtain ⟨x15, ex15, hix15, h⟩ := g_rd_some h
            refine b_iald hx hb hK hw 0 1 rfl (f := v) rfl hix15 ex15 dX11_used_97 ?_
            refine lv_iadd hx hb dX11_used_98 ?_
            refine lv_iload_n hx hb dX11_used_99 rfl (lv_at hl 4 rfl) ?_
            obtain ⟨j117_16, ej117_16, h⟩ := g_jn_nm h
            have hj117_16 : ∀ (x16 : Int32) (H : Heap) (locs : List Loc) (ls : Array Slot), b_Wd D A s.heap H locs [k_Model g a o pasts length printed told state backX backY boxes frees bestFree bestTurned bestFirst bestSecond v spare past kept isKept text paper left top wide high original turn boxX boxY boxW boxH freeAtX freeAtY freeW freeH begins ends tried aside] → lv_has ls 7 [(0, .ref (a o)), (1, .int i1), (2, .int i2), (4, .int x6)] → j117_16 x16 = some u → W p l e (g_rm 2 42) s m args below meth c H locs 0 0 Q (F0 m 117 ls [.int x16]) := by
              intro x16 H locs ls hw hl h
              subst ej117_16
              dsimp only at h
              refine lv_istore_n (lv' := [(3, .int x16), (0, .ref (a o)), (1, .int i1), (2, .int i2), (4, .int x6)]) hx hb dX11_used_117 rfl hl (by decide) rfl (fun ls hl => ?_)
              exact hj118_9 x16 _ _ _ hw (lv_sub hl [1, 2, 3, 0, 4] rfl) h
            refine lv_icmp_le (tgt := 116) hx hb dX11_used_100 (by decide) (fun hc100 => ?_) (fun hc100 => ?_)
            · rw [if_pos hc100] at h
              refine lv_iload_n hx hb dX11_used_116 rfl (lv_at hl 4 rfl) ?_
              exact hj117_16 x5 _ _ _ hw (lv_sub hl [1, 2, 3, 5] rfl) h
            · rw [if_neg hc100] at h
              refine lv_iload hx hb dX11_used_103 (lv_at hl 0 rfl) ?_
              refine lv_aload_n hx hb dX11_used_105 rfl (lv_at hl 1 rfl) ?_
              refine b_get hx hb hT hK hown fl_X11_7 hw 0 0 rfl rfl (v := .ref (a (o+1))) rfl dX11_used_106 ?_
              refine lv_bipush (v := 6) hx hb dX11_used_109 (by decide) ?_
              obtain ⟨x18, ex18, hix18, h⟩ := g_rd_some h
              refine b_iald hx hb hK hw 0 1 rfl (f := v) rfl hix18 ex18 dX11_used_111 ?_
              refine lv_iadd hx hb dX11_used_112 ?_
              refine lv_goto (tgt := 117) hx hb dX11_used_113 (by decide) ?_
              exact hj117_16 (x13 + x18) _ _ _ hw (lv_sub hl [1, 2, 3, 5] rfl) h
          refine lv_if_eq (tgt := 72) hx hb dX11_used_51 (by decide) (fun hc51 => ?_) (fun hc51 => ?_)
          · rw [if_pos hc51] at h
            refine lv_aload_n hx hb dX11_used_72 rfl (lv_at hl 1 rfl) ?_
            refine lv_iload hx hb dX11_used_73 (lv_at hl 5 rfl) ?_
            obtain ⟨r19, er19, h⟩ := g_cl_some h
            refine b_callV hx hb hml hown hT hK hA hw mk_X11_276 (c_X11_rowOf l D g a o pasts length printed told state backX backY boxes frees bestFree bestTurned bestFirst bestSecond v spare past kept isKept text paper left top wide high original turn boxX boxY boxW boxH freeAtX freeAtY freeW freeH begins ends tried aside x6 r19 er19) [0] [] rfl (by decide) 0 0 rfl rfl rfl rfl hl.1 [] rfl (Nat.le_of_ble_eq_true rfl) ⟨Nat.le_of_ble_eq_true rfl, Nat.le_of_ble_eq_true rfl⟩ ⟨Nat.zero_le _, Nat.zero_le _⟩ dX11_used_75 (wb' := [k_Model g a o pasts length printed told state backX backY boxes frees bestFree bestTurned bestFirst bestSecond v spare past kept isKept text paper left top wide high original turn boxX boxY boxW boxH freeAtX freeAtY freeW freeH begins ends tried aside]) rfl b_e0 1 rfl (by decide) (st2 := [.int r19]) rfl (fun H locs hw => ?_)
            refine lv_aload_n hx hb dX11_used_78 rfl (lv_at hl 1 rfl) ?_
            refine lv_iload hx hb dX11_used_79 (lv_at hl 5 rfl) ?_
            refine lv_iload hx hb dX11_used_81 (lv_at hl 0 rfl) ?_
            obtain ⟨r20, er20, h⟩ := g_cl_some h
            refine b_callV hx hb hml hown hT hK hA hw mk_X11_182 (c_X11_imageHeight l D g a o pasts length printed told state backX backY boxes frees bestFree bestTurned bestFirst bestSecond v spare past kept isKept text paper left top wide high original turn boxX boxY boxW boxH freeAtX freeAtY freeW freeH begins ends tried aside x6 x12 r20 er20) [0] [] rfl (by decide) 0 0 rfl rfl rfl rfl hl.1 [.int r19] rfl (Nat.le_of_ble_eq_true rfl) ⟨Nat.le_of_ble_eq_true rfl, Nat.le_of_ble_eq_true rfl⟩ ⟨Nat.zero_le _, Nat.zero_le _⟩ dX11_used_83 (wb' := [k_Model g a o pasts length printed told state backX backY boxes frees bestFree bestTurned bestFirst bestSecond v spare past kept isKept text paper left top wide high original turn boxX boxY boxW boxH freeAtX freeAtY freeW freeH begins ends tried aside]) rfl b_e0 1 rfl (by decide) (st2 := [.int r20, .int r19]) rfl (fun H locs hw => ?_)
            refine lv_iadd hx hb dX11_used_86 ?_
            exact hj87_13 (r19 + r20) _ _ _ hw (lv_sub hl [1, 2, 3, 4, 5] rfl) h
          · rw [if_neg hc51] at h
            refine lv_aload_n hx hb dX11_used_54 rfl (lv_at hl 1 rfl) ?_
            refine lv_iload hx hb dX11_used_55 (lv_at hl 5 rfl) ?_
            obtain ⟨r21, er21, h⟩ := g_cl_some h
            refine b_callV hx hb hml hown hT hK hA hw mk_X11_273 (c_X11_columnOf l D g a o pasts length printed told state backX backY boxes frees bestFree bestTurned bestFirst bestSecond v spare past kept isKept text paper left top wide high original turn boxX boxY boxW boxH freeAtX freeAtY freeW freeH begins ends tried aside x6 r21 er21) [0] [] rfl (by decide) 0 0 rfl rfl rfl rfl hl.1 [] rfl (Nat.le_of_ble_eq_true rfl) ⟨Nat.le_of_ble_eq_true rfl, Nat.le_of_ble_eq_true rfl⟩ ⟨Nat.zero_le _, Nat.zero_le _⟩ dX11_used_57 (wb' := [k_Model g a o pasts length printed told state backX backY boxes frees bestFree bestTurned bestFirst bestSecond v spare past kept isKept text paper left top wide high original turn boxX boxY boxW boxH freeAtX freeAtY freeW freeH begins ends tried aside]) rfl b_e0 1 rfl (by decide) (st2 := [.int r21]) rfl (fun H locs hw => ?_)
            refine lv_aload_n hx hb dX11_used_60 rfl (lv_at hl 1 rfl) ?_
            refine lv_iload hx hb dX11_used_61 (lv_at hl 5 rfl) ?_
            refine lv_iload hx hb dX11_used_63 (lv_at hl 0 rfl) ?_
            obtain ⟨r22, er22, h⟩ := g_cl_some h
            refine b_callV hx hb hml hown hT hK hA hw mk_X11_179 (c_X11_imageWidth l D g a o pasts length printed told state backX backY boxes frees bestFree bestTurned bestFirst bestSecond v spare past kept isKept text paper left top wide high original turn boxX boxY boxW boxH freeAtX freeAtY freeW freeH begins ends tried aside x6 x12 r22 er22) [0] [] rfl (by decide) 0 0 rfl rfl rfl rfl hl.1 [.int r21] rfl (Nat.le_of_ble_eq_true rfl) ⟨Nat.le_of_ble_eq_true rfl, Nat.le_of_ble_eq_true rfl⟩ ⟨Nat.zero_le _, Nat.zero_le _⟩ dX11_used_65 (wb' := [k_Model g a o pasts length printed told state backX backY boxes frees bestFree bestTurned bestFirst bestSecond v spare past kept isKept text paper left top wide high original turn boxX boxY boxW boxH freeAtX freeAtY freeW freeH begins ends tried aside]) rfl b_e0 1 rfl (by decide) (st2 := [.int r22, .int r21]) rfl (fun H locs hw => ?_)
            refine lv_iadd hx hb dX11_used_68 ?_
            refine lv_goto (tgt := 87) hx hb dX11_used_69 (by decide) ?_
            exact hj87_13 (r21 + r22) _ _ _ hw (lv_sub hl [1, 2, 3, 4, 5] rfl) h
  exact hL10 g_fuel x1 (0 : Int32) _ _ _ hw (lv_sub hl [2, 3, 4, 1, 0] rfl) h
set_option maxRecDepth 100000 in
set_option maxHeartbeats 4000000 in
theorem c_X11_usedWidth (l : Launch) (D : va_G) (g : Nat → ClassId) (a : Nat → Nat) (o : Nat) (pasts : Int32) (length : Int32) (printed : Int32) (told : Int32) (state : Int64) (backX : Int32) (backY : Int32) (boxes : Int32) (frees : Int32) (bestFree : Int32) (bestTurned : Int32) (bestFirst : Int32) (bestSecond : Int32) (v : (Nat → Int32)) (spare : (Nat → Int32)) (past : (Nat → Int32)) (kept : (Nat → Int32)) (isKept : (Nat → Int32)) (text : (Nat → Int32)) (paper : (Nat → Int32)) (left : (Nat → Int32)) (top : (Nat → Int32)) (wide : (Nat → Int32)) (high : (Nat → Int32)) (original : (Nat → Int32)) (turn : (Nat → Int32)) (boxX : (Nat → Int32)) (boxY : (Nat → Int32)) (boxW : (Nat → Int32)) (boxH : (Nat → Int32)) (freeAtX : (Nat → Int32)) (freeAtY : (Nat → Int32)) (freeW : (Nat → Int32)) (freeH : (Nat → Int32)) (begins : (Nat → Int32)) (ends : (Nat → Int32)) (tried : (Nat → Int32)) (aside : (Nat → Int32)) (i1 : Int32) (u : Int32 × Int32 × Int32 × (Nat → Int32) × (Nat → Int32) × (Nat → Int32) × (Nat → Int32) × (Nat → Int32) × (Nat → Int32)) (h : f_X11_usedWidth backX backY v left top wide high original turn i1 = some u) : b_Ct l yX11_usedWidth cX11_usedWidth 2 (some .int) 5 125 D g [.ref (a o), .int i1] [k_Model g a o pasts length printed told state backX backY boxes frees bestFree bestTurned bestFirst bestSecond v spare past kept isKept text paper left top wide high original turn boxX boxY boxW boxH freeAtX freeAtY freeW freeH begins ends tried aside] [k_Model g a o pasts length printed told state u.2.1 u.2.2.1 boxes frees bestFree bestTurned bestFirst bestSecond v spare past kept isKept text paper u.2.2.2.1 u.2.2.2.2.1 u.2.2.2.2.2.1 u.2.2.2.2.2.2.1 u.2.2.2.2.2.2.2.1 u.2.2.2.2.2.2.2.2 boxX boxY boxW boxH freeAtX freeAtY freeW freeH begins ends tried aside] (some (.int u.1)) := by
  refine b_start RX11 (by decide) rfl (Nat.le_of_ble_eq_true rfl) rfl ?_
  intro p e s m args below meth c A ls Q hQ hx hb hr hlk hml hown hT hK hA hw hl
  have hl : lv_has ls 2 [(0, .ref (a o)), (1, .int i1)] := hl
  unfold f_X11_usedWidth at h
  refine lv_aload_n hx hb dX11_usedWidth_0 rfl (lv_at hl 0 rfl) ?_
  refine lv_iload_n hx hb dX11_usedWidth_1 rfl (lv_at hl 1 rfl) ?_
  obtain ⟨r1, er1, h⟩ := g_cl_some h
  refine b_callV hx hb hml hown hT hK hA hw mk_X11_282 (c_X11_isPage l D g a o pasts length printed told state backX backY boxes frees bestFree bestTurned bestFirst bestSecond v spare past kept isKept text paper left top wide high original turn boxX boxY boxW boxH freeAtX freeAtY freeW freeH begins ends tried aside i1 r1 er1) [0] [] rfl (by decide) 0 0 rfl rfl rfl rfl hl.1 [] rfl (Nat.le_of_ble_eq_true rfl) ⟨Nat.le_of_ble_eq_true rfl, Nat.le_of_ble_eq_true rfl⟩ ⟨Nat.zero_le _, Nat.zero_le _⟩ dX11_usedWidth_2 (wb' := [k_Model g a o pasts length printed told state backX backY boxes frees bestFree bestTurned bestFirst bestSecond v spare past kept isKept text paper left top wide high original turn boxX boxY boxW boxH freeAtX freeAtY freeW freeH begins ends tried aside]) rfl b_e0 1 rfl (by decide) (st2 := [.int r1]) rfl (fun H locs hw => ?_)
  refine lv_if_ne (tgt := 10) hx hb dX11_usedWidth_5 (by decide) (fun hc5 => ?_) (fun hc5 => ?_)
  · rw [if_neg hc5] at h
    refine lv_aload_n hx hb dX11_usedWidth_10 rfl (lv_at hl 0 rfl) ?_
    obtain ⟨r2, er2, h⟩ := g_cl_some h
    refine b_callV hx hb hml hown hT hK hA hw mk_X11_176 (c_X11_knows l D g a o pasts length printed told state backX backY boxes frees bestFree bestTurned bestFirst bestSecond v spare past kept isKept text paper left top wide high original turn boxX boxY boxW boxH freeAtX freeAtY freeW freeH begins ends tried aside r2 er2) [0] [] rfl (by decide) 0 0 rfl rfl rfl rfl hl.1 [] rfl (Nat.le_of_ble_eq_true rfl) ⟨Nat.le_of_ble_eq_true rfl, Nat.le_of_ble_eq_true rfl⟩ ⟨Nat.zero_le _, Nat.zero_le _⟩ dX11_usedWidth_11 (wb' := [k_Model g a o pasts length printed told state r2.1 r2.2.1 boxes frees bestFree bestTurned bestFirst bestSecond v spare past kept isKept text paper r2.2.2.1 r2.2.2.2.1 r2.2.2.2.2.1 r2.2.2.2.2.2.1 r2.2.2.2.2.2.2.1 r2.2.2.2.2.2.2.2 boxX boxY boxW boxH freeAtX freeAtY freeW freeH begins ends tried aside]) rfl b_e0 1 rfl (by decide) (st2 := []) rfl (fun H locs hw => ?_)
    refine lv_aload_n hx hb dX11_usedWidth_14 rfl (lv_at hl 0 rfl) ?_
    refine lv_iload_n hx hb dX11_usedWidth_15 rfl (lv_at hl 1 rfl) ?_
    refine lv_iconst (v := 1) hx hb dX11_usedWidth_16 (by decide) ?_
    obtain ⟨r3, er3, h⟩ := g_cl_some h
    refine b_callV hx hb hml hown hT hK hA hw mk_X11_297 (c_X11_used l D g a o pasts length printed told state r2.1 r2.2.1 boxes frees bestFree bestTurned bestFirst bestSecond v spare past kept isKept text paper r2.2.2.1 r2.2.2.2.1 r2.2.2.2.2.1 r2.2.2.2.2.2.1 r2.2.2.2.2.2.2.1 r2.2.2.2.2.2.2.2 boxX boxY boxW boxH freeAtX freeAtY freeW freeH begins ends tried aside i1 (1 : Int32) r3 er3) [0] [] rfl (by decide) 0 0 rfl rfl rfl rfl hl.1 [] rfl (Nat.le_of_ble_eq_true rfl) ⟨Nat.le_of_ble_eq_true rfl, Nat.le_of_ble_eq_true rfl⟩ ⟨Nat.zero_le _, Nat.zero_le _⟩ dX11_usedWidth_17 (wb' := [k_Model g a o pasts length printed told state r2.1 r2.2.1 boxes frees bestFree bestTurned bestFirst bestSecond v spare past kept isKept text paper r2.2.2.1 r2.2.2.2.1 r2.2.2.2.2.1 r2.2.2.2.2.2.1 r2.2.2.2.2.2.2.1 r2.2.2.2.2.2.2.2 boxX boxY boxW boxH freeAtX freeAtY freeW freeH begins ends tried aside]) rfl b_e0 1 rfl (by decide) (st2 := [.int r3]) rfl (fun H locs hw => ?_)
    obtain rfl := Option.some.inj h
    exact b_iret hQ hx hb hr hlk hw rfl dX11_usedWidth_20
  · rw [if_pos hc5] at h
    refine lv_iconst (v := -1) hx hb dX11_usedWidth_8 (by decide) ?_
    obtain rfl := Option.some.inj h
    exact b_iret hQ hx hb hr hlk hw rfl dX11_usedWidth_9
set_option maxRecDepth 100000 in
set_option maxHeartbeats 4000000 in
theorem c_X11_usedHeight (l : Launch) (D : va_G) (g : Nat → ClassId) (a : Nat → Nat) (o : Nat) (pasts : Int32) (length : Int32) (printed : Int32) (told : Int32) (state : Int64) (backX : Int32) (backY : Int32) (boxes : Int32) (frees : Int32) (bestFree : Int32) (bestTurned : Int32) (bestFirst : Int32) (bestSecond : Int32) (v : (Nat → Int32)) (spare : (Nat → Int32)) (past : (Nat → Int32)) (kept : (Nat → Int32)) (isKept : (Nat → Int32)) (text : (Nat → Int32)) (paper : (Nat → Int32)) (left : (Nat → Int32)) (top : (Nat → Int32)) (wide : (Nat → Int32)) (high : (Nat → Int32)) (original : (Nat → Int32)) (turn : (Nat → Int32)) (boxX : (Nat → Int32)) (boxY : (Nat → Int32)) (boxW : (Nat → Int32)) (boxH : (Nat → Int32)) (freeAtX : (Nat → Int32)) (freeAtY : (Nat → Int32)) (freeW : (Nat → Int32)) (freeH : (Nat → Int32)) (begins : (Nat → Int32)) (ends : (Nat → Int32)) (tried : (Nat → Int32)) (aside : (Nat → Int32)) (i1 : Int32) (u : Int32 × Int32 × Int32 × (Nat → Int32) × (Nat → Int32) × (Nat → Int32) × (Nat → Int32) × (Nat → Int32) × (Nat → Int32)) (h : f_X11_usedHeight backX backY v left top wide high original turn i1 = some u) : b_Ct l yX11_usedHeight cX11_usedHeight 2 (some .int) 5 125 D g [.ref (a o), .int i1] [k_Model g a o pasts length printed told state backX backY boxes frees bestFree bestTurned bestFirst bestSecond v spare past kept isKept text paper left top wide high original turn boxX boxY boxW boxH freeAtX freeAtY freeW freeH begins ends tried aside] [k_Model g a o pasts length printed told state u.2.1 u.2.2.1 boxes frees bestFree bestTurned bestFirst bestSecond v spare past kept isKept text paper u.2.2.2.1 u.2.2.2.2.1 u.2.2.2.2.2.1 u.2.2.2.2.2.2.1 u.2.2.2.2.2.2.2.1 u.2.2.2.2.2.2.2.2 boxX boxY boxW boxH freeAtX freeAtY freeW freeH begins ends tried aside] (some (.int u.1)) := by
  refine b_start RX11 (by decide) rfl (Nat.le_of_ble_eq_true rfl) rfl ?_
  intro p e s m args below meth c A ls Q hQ hx hb hr hlk hml hown hT hK hA hw hl
  have hl : lv_has ls 2 [(0, .ref (a o)), (1, .int i1)] := hl
  unfold f_X11_usedHeight at h
  refine lv_aload_n hx hb dX11_usedHeight_0 rfl (lv_at hl 0 rfl) ?_
  refine lv_iload_n hx hb dX11_usedHeight_1 rfl (lv_at hl 1 rfl) ?_
  obtain ⟨r1, er1, h⟩ := g_cl_some h
  refine b_callV hx hb hml hown hT hK hA hw mk_X11_282 (c_X11_isPage l D g a o pasts length printed told state backX backY boxes frees bestFree bestTurned bestFirst bestSecond v spare past kept isKept text paper left top wide high original turn boxX boxY boxW boxH freeAtX freeAtY freeW freeH begins ends tried aside i1 r1 er1) [0] [] rfl (by decide) 0 0 rfl rfl rfl rfl hl.1 [] rfl (Nat.le_of_ble_eq_true rfl) ⟨Nat.le_of_ble_eq_true rfl, Nat.le_of_ble_eq_true rfl⟩ ⟨Nat.zero_le _, Nat.zero_le _⟩ dX11_usedHeight_2 (wb' := [k_Model g a o pasts length printed told state backX backY boxes frees bestFree bestTurned bestFirst bestSecond v spare past kept isKept text paper left top wide high original turn boxX boxY boxW boxH freeAtX freeAtY freeW freeH begins ends tried aside]) rfl b_e0 1 rfl (by decide) (st2 := [.int r1]) rfl (fun H locs hw => ?_)
  refine lv_if_ne (tgt := 10) hx hb dX11_usedHeight_5 (by decide) (fun hc5 => ?_) (fun hc5 => ?_)
  · rw [if_neg hc5] at h
    refine lv_aload_n hx hb dX11_usedHeight_10 rfl (lv_at hl 0 rfl) ?_
    obtain ⟨r2, er2, h⟩ := g_cl_some h
    refine b_callV hx hb hml hown hT hK hA hw mk_X11_176 (c_X11_knows l D g a o pasts length printed told state backX backY boxes frees bestFree bestTurned bestFirst bestSecond v spare past kept isKept text paper left top wide high original turn boxX boxY boxW boxH freeAtX freeAtY freeW freeH begins ends tried aside r2 er2) [0] [] rfl (by decide) 0 0 rfl rfl rfl rfl hl.1 [] rfl (Nat.le_of_ble_eq_true rfl) ⟨Nat.le_of_ble_eq_true rfl, Nat.le_of_ble_eq_true rfl⟩ ⟨Nat.zero_le _, Nat.zero_le _⟩ dX11_usedHeight_11 (wb' := [k_Model g a o pasts length printed told state r2.1 r2.2.1 boxes frees bestFree bestTurned bestFirst bestSecond v spare past kept isKept text paper r2.2.2.1 r2.2.2.2.1 r2.2.2.2.2.1 r2.2.2.2.2.2.1 r2.2.2.2.2.2.2.1 r2.2.2.2.2.2.2.2 boxX boxY boxW boxH freeAtX freeAtY freeW freeH begins ends tried aside]) rfl b_e0 1 rfl (by decide) (st2 := []) rfl (fun H locs hw => ?_)
    refine lv_aload_n hx hb dX11_usedHeight_14 rfl (lv_at hl 0 rfl) ?_
    refine lv_iload_n hx hb dX11_usedHeight_15 rfl (lv_at hl 1 rfl) ?_
    refine lv_iconst (v := 0) hx hb dX11_usedHeight_16 (by decide) ?_
    obtain ⟨r3, er3, h⟩ := g_cl_some h
    refine b_callV hx hb hml hown hT hK hA hw mk_X11_297 (c_X11_used l D g a o pasts length printed told state r2.1 r2.2.1 boxes frees bestFree bestTurned bestFirst bestSecond v spare past kept isKept text paper r2.2.2.1 r2.2.2.2.1 r2.2.2.2.2.1 r2.2.2.2.2.2.1 r2.2.2.2.2.2.2.1 r2.2.2.2.2.2.2.2 boxX boxY boxW boxH freeAtX freeAtY freeW freeH begins ends tried aside i1 (0 : Int32) r3 er3) [0] [] rfl (by decide) 0 0 rfl rfl rfl rfl hl.1 [] rfl (Nat.le_of_ble_eq_true rfl) ⟨Nat.le_of_ble_eq_true rfl, Nat.le_of_ble_eq_true rfl⟩ ⟨Nat.zero_le _, Nat.zero_le _⟩ dX11_usedHeight_17 (wb' := [k_Model g a o pasts length printed told state r2.1 r2.2.1 boxes frees bestFree bestTurned bestFirst bestSecond v spare past kept isKept text paper r2.2.2.1 r2.2.2.2.1 r2.2.2.2.2.1 r2.2.2.2.2.2.1 r2.2.2.2.2.2.2.1 r2.2.2.2.2.2.2.2 boxX boxY boxW boxH freeAtX freeAtY freeW freeH begins ends tried aside]) rfl b_e0 1 rfl (by decide) (st2 := [.int r3]) rfl (fun H locs hw => ?_)
    obtain rfl := Option.some.inj h
    exact b_iret hQ hx hb hr hlk hw rfl dX11_usedHeight_20
  · rw [if_pos hc5] at h
    refine lv_iconst (v := -1) hx hb dX11_usedHeight_8 (by decide) ?_
    obtain rfl := Option.some.inj h
    exact b_iret hQ hx hb hr hlk hw rfl dX11_usedHeight_9
set_option maxRecDepth 100000 in
set_option maxHeartbeats 4000000 in
theorem c_X11_looks (l : Launch) (D : va_G) (g : Nat → ClassId) (a : Nat → Nat) (o : Nat) (pasts : Int32) (length : Int32) (printed : Int32) (told : Int32) (state : Int64) (backX : Int32) (backY : Int32) (boxes : Int32) (frees : Int32) (bestFree : Int32) (bestTurned : Int32) (bestFirst : Int32) (bestSecond : Int32) (v : (Nat → Int32)) (spare : (Nat → Int32)) (past : (Nat → Int32)) (kept : (Nat → Int32)) (isKept : (Nat → Int32)) (text : (Nat → Int32)) (paper : (Nat → Int32)) (left : (Nat → Int32)) (top : (Nat → Int32)) (wide : (Nat → Int32)) (high : (Nat → Int32)) (original : (Nat → Int32)) (turn : (Nat → Int32)) (boxX : (Nat → Int32)) (boxY : (Nat → Int32)) (boxW : (Nat → Int32)) (boxH : (Nat → Int32)) (freeAtX : (Nat → Int32)) (freeAtY : (Nat → Int32)) (freeW : (Nat → Int32)) (freeH : (Nat → Int32)) (begins : (Nat → Int32)) (ends : (Nat → Int32)) (tried : (Nat → Int32)) (aside : (Nat → Int32)) (i1 : Int32) (u : Int32 × Int32 × Int32 × Int32 × Int32 × (Nat → Int32) × (Nat → Int32) × (Nat → Int32) × (Nat → Int32) × (Nat → Int32) × (Nat → Int32) × (Nat → Int32) × (Nat → Int32) × (Nat → Int32) × (Nat → Int32) × (Nat → Int32) × (Nat → Int32) × (Nat → Int32) × (Nat → Int32) × (Nat → Int32) × (Nat → Int32)) (h : f_X11_looks backX backY boxes frees v left top wide high original turn boxX boxY boxW boxH freeAtX freeAtY freeW freeH begins ends i1 = some u) : b_Ct l yX11_looks cX11_looks 2 (some .int) 5 125 D g [.ref (a o), .int i1] [k_Model g a o pasts length printed told state backX backY boxes frees bestFree bestTurned bestFirst bestSecond v spare past kept isKept text paper left top wide high original turn boxX boxY boxW boxH freeAtX freeAtY freeW freeH begins ends tried aside] [k_Model g a o pasts length printed told state u.2.1 u.2.2.1 u.2.2.2.1 u.2.2.2.2.1 bestFree bestTurned bestFirst bestSecond v spare past kept isKept text paper u.2.2.2.2.2.1 u.2.2.2.2.2.2.1 u.2.2.2.2.2.2.2.1 u.2.2.2.2.2.2.2.2.1 u.2.2.2.2.2.2.2.2.2.1 u.2.2.2.2.2.2.2.2.2.2.1 u.2.2.2.2.2.2.2.2.2.2.2.1 u.2.2.2.2.2.2.2.2.2.2.2.2.1 u.2.2.2.2.2.2.2.2.2.2.2.2.2.1 u.2.2.2.2.2.2.2.2.2.2.2.2.2.2.1 u.2.2.2.2.2.2.2.2.2.2.2.2.2.2.2.1 u.2.2.2.2.2.2.2.2.2.2.2.2.2.2.2.2.1 u.2.2.2.2.2.2.2.2.2.2.2.2.2.2.2.2.2.1 u.2.2.2.2.2.2.2.2.2.2.2.2.2.2.2.2.2.2.1 u.2.2.2.2.2.2.2.2.2.2.2.2.2.2.2.2.2.2.2.1 u.2.2.2.2.2.2.2.2.2.2.2.2.2.2.2.2.2.2.2.2 tried aside] (some (.int u.1)) := by
  refine b_start RX11 (by decide) rfl (Nat.le_of_ble_eq_true rfl) rfl ?_
  intro p e s m args below meth c A ls Q hQ hx hb hr hlk hml hown hT hK hA hw hl
  have hl : lv_has ls 2 [(0, .ref (a o)), (1, .int i1)] := hl
  unfold f_X11_looks at h
  refine lv_aload_n hx hb dX11_looks_0 rfl (lv_at hl 0 rfl) ?_
  refine lv_iload_n hx hb dX11_looks_1 rfl (lv_at hl 1 rfl) ?_
  obtain ⟨r1, er1, h⟩ := g_cl_some h
  refine b_callV hx hb hml hown hT hK hA hw mk_X11_282 (c_X11_isPage l D g a o pasts length printed told state backX backY boxes frees bestFree bestTurned bestFirst bestSecond v spare past kept isKept text paper left top wide high original turn boxX boxY boxW boxH freeAtX freeAtY freeW freeH begins ends tried aside i1 r1 er1) [0] [] rfl (by decide) 0 0 rfl rfl rfl rfl hl.1 [] rfl (Nat.le_of_ble_eq_true rfl) ⟨Nat.le_of_ble_eq_true rfl, Nat.le_of_ble_eq_true rfl⟩ ⟨Nat.zero_le _, Nat.zero_le _⟩ dX11_looks_2 (wb' := [k_Model g a o pasts length printed told state backX backY boxes frees bestFree bestTurned bestFirst bestSecond v spare past kept isKept text paper left top wide high original turn boxX boxY boxW boxH freeAtX freeAtY freeW freeH begins ends tried aside]) rfl b_e0 1 rfl (by decide) (st2 := [.int r1]) rfl (fun H locs hw => ?_)
  refine lv_if_ne (tgt := 10) hx hb dX11_looks_5 (by decide) (fun hc5 => ?_) (fun hc5 => ?_)
  · rw [if_neg hc5] at h
    refine lv_aload_n hx hb dX11_looks_10 rfl (lv_at hl 0 rfl) ?_
    obtain ⟨r2, er2, h⟩ := g_cl_some h
    refine b_callV hx hb hml hown hT hK hA hw mk_X11_176 (c_X11_knows l D g a o pasts length printed told state backX backY boxes frees bestFree bestTurned bestFirst bestSecond v spare past kept isKept text paper left top wide high original turn boxX boxY boxW boxH freeAtX freeAtY freeW freeH begins ends tried aside r2 er2) [0] [] rfl (by decide) 0 0 rfl rfl rfl rfl hl.1 [] rfl (Nat.le_of_ble_eq_true rfl) ⟨Nat.le_of_ble_eq_true rfl, Nat.le_of_ble_eq_true rfl⟩ ⟨Nat.zero_le _, Nat.zero_le _⟩ dX11_looks_11 (wb' := [k_Model g a o pasts length printed told state r2.1 r2.2.1 boxes frees bestFree bestTurned bestFirst bestSecond v spare past kept isKept text paper r2.2.2.1 r2.2.2.2.1 r2.2.2.2.2.1 r2.2.2.2.2.2.1 r2.2.2.2.2.2.2.1 r2.2.2.2.2.2.2.2 boxX boxY boxW boxH freeAtX freeAtY freeW freeH begins ends tried aside]) rfl b_e0 1 rfl (by decide) (st2 := []) rfl (fun H locs hw => ?_)
    refine lv_aload_n hx hb dX11_looks_14 rfl (lv_at hl 0 rfl) ?_
    refine lv_iload_n hx hb dX11_looks_15 rfl (lv_at hl 1 rfl) ?_
    obtain ⟨r3, er3, h⟩ := g_cl_some h
    refine b_callV hx hb hml hown hT hK hA hw mk_X11_234 (c_X11_freesOf l D g a o pasts length printed told state r2.1 r2.2.1 boxes frees bestFree bestTurned bestFirst bestSecond v spare past kept isKept text paper r2.2.2.1 r2.2.2.2.1 r2.2.2.2.2.1 r2.2.2.2.2.2.1 r2.2.2.2.2.2.2.1 r2.2.2.2.2.2.2.2 boxX boxY boxW boxH freeAtX freeAtY freeW freeH begins ends tried aside i1 r3 er3) [0] [] rfl (by decide) 0 0 rfl rfl rfl rfl hl.1 [] rfl (Nat.le_of_ble_eq_true rfl) ⟨Nat.le_of_ble_eq_true rfl, Nat.le_of_ble_eq_true rfl⟩ ⟨Nat.zero_le _, Nat.zero_le _⟩ dX11_looks_16 (wb' := [k_Model g a o pasts length printed told state r2.1 r2.2.1 r3.1 r3.2.1 bestFree bestTurned bestFirst bestSecond v spare past kept isKept text paper r2.2.2.1 r2.2.2.2.1 r2.2.2.2.2.1 r2.2.2.2.2.2.1 r2.2.2.2.2.2.2.1 r2.2.2.2.2.2.2.2 r3.2.2.1 r3.2.2.2.1 r3.2.2.2.2.1 r3.2.2.2.2.2.1 r3.2.2.2.2.2.2.1 r3.2.2.2.2.2.2.2.1 r3.2.2.2.2.2.2.2.2.1 r3.2.2.2.2.2.2.2.2.2.1 r3.2.2.2.2.2.2.2.2.2.2.1 r3.2.2.2.2.2.2.2.2.2.2.2 tried aside]) rfl b_e0 1 rfl (by decide) (st2 := []) rfl (fun H locs hw => ?_)
    refine lv_aload_n hx hb dX11_looks_19 rfl (lv_at hl 0 rfl) ?_
    refine b_get hx hb hT hK hown fl_X11_200 hw 0 0 rfl rfl (v := .int r3.2.1) rfl dX11_looks_20 ?_
    obtain rfl := Option.some.inj h
    exact b_iret hQ hx hb hr hlk hw rfl dX11_looks_23
  · rw [if_pos hc5] at h
    refine lv_iconst (v := -1) hx hb dX11_looks_8 (by decide) ?_
    obtain rfl := Option.some.inj h
    exact b_iret hQ hx hb hr hlk hw rfl dX11_looks_9
set_option maxRecDepth 100000 in
set_option maxHeartbeats 4000000 in
theorem c_X11_freeRectangles (l : Launch) (D : va_G) (g : Nat → ClassId) (a : Nat → Nat) (o : Nat) (pasts : Int32) (length : Int32) (printed : Int32) (told : Int32) (state : Int64) (backX : Int32) (backY : Int32) (boxes : Int32) (frees : Int32) (bestFree : Int32) (bestTurned : Int32) (bestFirst : Int32) (bestSecond : Int32) (v : (Nat → Int32)) (spare : (Nat → Int32)) (past : (Nat → Int32)) (kept : (Nat → Int32)) (isKept : (Nat → Int32)) (text : (Nat → Int32)) (paper : (Nat → Int32)) (left : (Nat → Int32)) (top : (Nat → Int32)) (wide : (Nat → Int32)) (high : (Nat → Int32)) (original : (Nat → Int32)) (turn : (Nat → Int32)) (boxX : (Nat → Int32)) (boxY : (Nat → Int32)) (boxW : (Nat → Int32)) (boxH : (Nat → Int32)) (freeAtX : (Nat → Int32)) (freeAtY : (Nat → Int32)) (freeW : (Nat → Int32)) (freeH : (Nat → Int32)) (begins : (Nat → Int32)) (ends : (Nat → Int32)) (tried : (Nat → Int32)) (aside : (Nat → Int32)) (i1 : Int32) (u : Int32 × Int32 × Int32 × Int32 × Int32 × (Nat → Int32) × (Nat → Int32) × (Nat → Int32) × (Nat → Int32) × (Nat → Int32) × (Nat → Int32) × (Nat → Int32) × (Nat → Int32) × (Nat → Int32) × (Nat → Int32) × (Nat → Int32) × (Nat → Int32) × (Nat → Int32) × (Nat → Int32) × (Nat → Int32) × (Nat → Int32)) (h : f_X11_freeRectangles backX backY boxes frees v left top wide high original turn boxX boxY boxW boxH freeAtX freeAtY freeW freeH begins ends i1 = some u) : b_Ct l yX11_freeRectangles cX11_freeRectangles 2 (some .int) 6 146 D g [.ref (a o), .int i1] [k_Model g a o pasts length printed told state backX backY boxes frees bestFree bestTurned bestFirst bestSecond v spare past kept isKept text paper left top wide high original turn boxX boxY boxW boxH freeAtX freeAtY freeW freeH begins ends tried aside] [k_Model g a o pasts length printed told state u.2.1 u.2.2.1 u.2.2.2.1 u.2.2.2.2.1 bestFree bestTurned bestFirst bestSecond v spare past kept isKept text paper u.2.2.2.2.2.1 u.2.2.2.2.2.2.1 u.2.2.2.2.2.2.2.1 u.2.2.2.2.2.2.2.2.1 u.2.2.2.2.2.2.2.2.2.1 u.2.2.2.2.2.2.2.2.2.2.1 u.2.2.2.2.2.2.2.2.2.2.2.1 u.2.2.2.2.2.2.2.2.2.2.2.2.1 u.2.2.2.2.2.2.2.2.2.2.2.2.2.1 u.2.2.2.2.2.2.2.2.2.2.2.2.2.2.1 u.2.2.2.2.2.2.2.2.2.2.2.2.2.2.2.1 u.2.2.2.2.2.2.2.2.2.2.2.2.2.2.2.2.1 u.2.2.2.2.2.2.2.2.2.2.2.2.2.2.2.2.2.1 u.2.2.2.2.2.2.2.2.2.2.2.2.2.2.2.2.2.2.1 u.2.2.2.2.2.2.2.2.2.2.2.2.2.2.2.2.2.2.2.1 u.2.2.2.2.2.2.2.2.2.2.2.2.2.2.2.2.2.2.2.2 tried aside] (some (.int u.1)) := by
  refine b_start RX11 (by decide) rfl (Nat.le_of_ble_eq_true rfl) rfl ?_
  intro p e s m args below meth c A ls Q hQ hx hb hr hlk hml hown hT hK hA hw hl
  have hl : lv_has ls 2 [(0, .ref (a o)), (1, .int i1)] := hl
  unfold f_X11_freeRectangles at h
  refine lv_aload_n hx hb dX11_freeRectangles_0 rfl (lv_at hl 0 rfl) ?_
  refine lv_iload_n hx hb dX11_freeRectangles_1 rfl (lv_at hl 1 rfl) ?_
  obtain ⟨r1, er1, h⟩ := g_cl_some h
  refine b_callV hx hb hml hown hT hK hA hw mk_X11_301 (c_X11_looks l D g a o pasts length printed told state backX backY boxes frees bestFree bestTurned bestFirst bestSecond v spare past kept isKept text paper left top wide high original turn boxX boxY boxW boxH freeAtX freeAtY freeW freeH begins ends tried aside i1 r1 er1) [0] [] rfl (by decide) 0 0 rfl rfl rfl rfl hl.1 [] rfl (Nat.le_of_ble_eq_true rfl) ⟨Nat.le_of_ble_eq_true rfl, Nat.le_of_ble_eq_true rfl⟩ ⟨Nat.zero_le _, Nat.zero_le _⟩ dX11_freeRectangles_2 (wb' := [k_Model g a o pasts length printed told state r1.2.1 r1.2.2.1 r1.2.2.2.1 r1.2.2.2.2.1 bestFree bestTurned bestFirst bestSecond v spare past kept isKept text paper r1.2.2.2.2.2.1 r1.2.2.2.2.2.2.1 r1.2.2.2.2.2.2.2.1 r1.2.2.2.2.2.2.2.2.1 r1.2.2.2.2.2.2.2.2.2.1 r1.2.2.2.2.2.2.2.2.2.2.1 r1.2.2.2.2.2.2.2.2.2.2.2.1 r1.2.2.2.2.2.2.2.2.2.2.2.2.1 r1.2.2.2.2.2.2.2.2.2.2.2.2.2.1 r1.2.2.2.2.2.2.2.2.2.2.2.2.2.2.1 r1.2.2.2.2.2.2.2.2.2.2.2.2.2.2.2.1 r1.2.2.2.2.2.2.2.2.2.2.2.2.2.2.2.2.1 r1.2.2.2.2.2.2.2.2.2.2.2.2.2.2.2.2.2.1 r1.2.2.2.2.2.2.2.2.2.2.2.2.2.2.2.2.2.2.1 r1.2.2.2.2.2.2.2.2.2.2.2.2.2.2.2.2.2.2.2.1 r1.2.2.2.2.2.2.2.2.2.2.2.2.2.2.2.2.2.2.2.2 tried aside]) rfl b_e0 1 rfl (by decide) (st2 := [.int r1.1]) rfl (fun H locs hw => ?_)
  obtain rfl := Option.some.inj h
  exact b_iret hQ hx hb hr hlk hw rfl dX11_freeRectangles_5
set_option maxRecDepth 100000 in
set_option maxHeartbeats 4000000 in
theorem c_X11_freeX (l : Launch) (D : va_G) (g : Nat → ClassId) (a : Nat → Nat) (o : Nat) (pasts : Int32) (length : Int32) (printed : Int32) (told : Int32) (state : Int64) (backX : Int32) (backY : Int32) (boxes : Int32) (frees : Int32) (bestFree : Int32) (bestTurned : Int32) (bestFirst : Int32) (bestSecond : Int32) (v : (Nat → Int32)) (spare : (Nat → Int32)) (past : (Nat → Int32)) (kept : (Nat → Int32)) (isKept : (Nat → Int32)) (text : (Nat → Int32)) (paper : (Nat → Int32)) (left : (Nat → Int32)) (top : (Nat → Int32)) (wide : (Nat → Int32)) (high : (Nat → Int32)) (original : (Nat → Int32)) (turn : (Nat → Int32)) (boxX : (Nat → Int32)) (boxY : (Nat → Int32)) (boxW : (Nat → Int32)) (boxH : (Nat → Int32)) (freeAtX : (Nat → Int32)) (freeAtY : (Nat → Int32)) (freeW : (Nat → Int32)) (freeH : (Nat → Int32)) (begins : (Nat → Int32)) (ends : (Nat → Int32)) (tried : (Nat → Int32)) (aside : (Nat → Int32)) (i1 : Int32) (i2 : Int32) (u : Int32 × Int32 × Int32 × Int32 × Int32 × (Nat → Int32) × (Nat → Int32) × (Nat → Int32) × (Nat → Int32) × (Nat → Int32) × (Nat → Int32) × (Nat → Int32) × (Nat → Int32) × (Nat → Int32) × (Nat → Int32) × (Nat → Int32) × (Nat → Int32) × (Nat → Int32) × (Nat → Int32) × (Nat → Int32) × (Nat → Int32)) (h : f_X11_freeX backX backY boxes frees v left top wide high original turn boxX boxY boxW boxH freeAtX freeAtY freeW freeH begins ends i1 i2 = some u) : b_Ct l yX11_freeX cX11_freeX 3 (some .int) 6 146 D g [.ref (a o), .int i1, .int i2] [k_Model g a o pasts length printed told state backX backY boxes frees bestFree bestTurned bestFirst bestSecond v spare past kept isKept text paper left top wide high original turn boxX boxY boxW boxH freeAtX freeAtY freeW freeH begins ends tried aside] [k_Model g a o pasts length printed told state u.2.1 u.2.2.1 u.2.2.2.1 u.2.2.2.2.1 bestFree bestTurned bestFirst bestSecond v spare past kept isKept text paper u.2.2.2.2.2.1 u.2.2.2.2.2.2.1 u.2.2.2.2.2.2.2.1 u.2.2.2.2.2.2.2.2.1 u.2.2.2.2.2.2.2.2.2.1 u.2.2.2.2.2.2.2.2.2.2.1 u.2.2.2.2.2.2.2.2.2.2.2.1 u.2.2.2.2.2.2.2.2.2.2.2.2.1 u.2.2.2.2.2.2.2.2.2.2.2.2.2.1 u.2.2.2.2.2.2.2.2.2.2.2.2.2.2.1 u.2.2.2.2.2.2.2.2.2.2.2.2.2.2.2.1 u.2.2.2.2.2.2.2.2.2.2.2.2.2.2.2.2.1 u.2.2.2.2.2.2.2.2.2.2.2.2.2.2.2.2.2.1 u.2.2.2.2.2.2.2.2.2.2.2.2.2.2.2.2.2.2.1 u.2.2.2.2.2.2.2.2.2.2.2.2.2.2.2.2.2.2.2.1 u.2.2.2.2.2.2.2.2.2.2.2.2.2.2.2.2.2.2.2.2 tried aside] (some (.int u.1)) := by
  refine b_start RX11 (by decide) rfl (Nat.le_of_ble_eq_true rfl) rfl ?_
  intro p e s m args below meth c A ls Q hQ hx hb hr hlk hml hown hT hK hA hw hl
  have hl : lv_has ls 3 [(0, .ref (a o)), (1, .int i1), (2, .int i2)] := hl
  unfold f_X11_freeX at h
  refine lv_iload_n hx hb dX11_freeX_0 rfl (lv_at hl 2 rfl) ?_
  refine lv_iconst (v := 0) hx hb dX11_freeX_1 (by decide) ?_
  refine lv_aload_n hx hb dX11_freeX_2 rfl (lv_at hl 0 rfl) ?_
  refine lv_iload_n hx hb dX11_freeX_3 rfl (lv_at hl 1 rfl) ?_
  obtain ⟨r1, er1, h⟩ := g_cl_some h
  refine b_callV hx hb hml hown hT hK hA hw mk_X11_301 (c_X11_looks l D g a o pasts length printed told state backX backY boxes frees bestFree bestTurned bestFirst bestSecond v spare past kept isKept text paper left top wide high original turn boxX boxY boxW boxH freeAtX freeAtY freeW freeH begins ends tried aside i1 r1 er1) [0] [] rfl (by decide) 0 0 rfl rfl rfl rfl hl.1 [.int (0 : Int32), .int i2] rfl (Nat.le_of_ble_eq_true rfl) ⟨Nat.le_of_ble_eq_true rfl, Nat.le_of_ble_eq_true rfl⟩ ⟨Nat.zero_le _, Nat.zero_le _⟩ dX11_freeX_4 (wb' := [k_Model g a o pasts length printed told state r1.2.1 r1.2.2.1 r1.2.2.2.1 r1.2.2.2.2.1 bestFree bestTurned bestFirst bestSecond v spare past kept isKept text paper r1.2.2.2.2.2.1 r1.2.2.2.2.2.2.1 r1.2.2.2.2.2.2.2.1 r1.2.2.2.2.2.2.2.2.1 r1.2.2.2.2.2.2.2.2.2.1 r1.2.2.2.2.2.2.2.2.2.2.1 r1.2.2.2.2.2.2.2.2.2.2.2.1 r1.2.2.2.2.2.2.2.2.2.2.2.2.1 r1.2.2.2.2.2.2.2.2.2.2.2.2.2.1 r1.2.2.2.2.2.2.2.2.2.2.2.2.2.2.1 r1.2.2.2.2.2.2.2.2.2.2.2.2.2.2.2.1 r1.2.2.2.2.2.2.2.2.2.2.2.2.2.2.2.2.1 r1.2.2.2.2.2.2.2.2.2.2.2.2.2.2.2.2.2.1 r1.2.2.2.2.2.2.2.2.2.2.2.2.2.2.2.2.2.2.1 r1.2.2.2.2.2.2.2.2.2.2.2.2.2.2.2.2.2.2.2.1 r1.2.2.2.2.2.2.2.2.2.2.2.2.2.2.2.2.2.2.2.2 tried aside]) rfl b_e0 1 rfl (by decide) (st2 := [.int r1.1, .int (0 : Int32), .int i2]) rfl (fun H locs hw => ?_)
  refine lv_iconst (v := 1) hx hb dX11_freeX_7 (by decide) ?_
  refine lv_isub hx hb dX11_freeX_8 ?_
  refine b_callS hx hb hml hown hT hK hA hw mk_X11_86 (c_X11_in l D g i2 (0 : Int32) (r1.1 - (1 : Int32))) [] [0] rfl (by decide) rfl hl.1 [] rfl (Nat.le_of_ble_eq_true rfl) ⟨Nat.le_of_ble_eq_true rfl, Nat.le_of_ble_eq_true rfl⟩ ⟨Nat.zero_le _, Nat.zero_le _⟩ dX11_freeX_9 (wb' := [k_Model g a o pasts length printed told state r1.2.1 r1.2.2.1 r1.2.2.2.1 r1.2.2.2.2.1 bestFree bestTurned bestFirst bestSecond v spare past kept isKept text paper r1.2.2.2.2.2.1 r1.2.2.2.2.2.2.1 r1.2.2.2.2.2.2.2.1 r1.2.2.2.2.2.2.2.2.1 r1.2.2.2.2.2.2.2.2.2.1 r1.2.2.2.2.2.2.2.2.2.2.1 r1.2.2.2.2.2.2.2.2.2.2.2.1 r1.2.2.2.2.2.2.2.2.2.2.2.2.1 r1.2.2.2.2.2.2.2.2.2.2.2.2.2.1 r1.2.2.2.2.2.2.2.2.2.2.2.2.2.2.1 r1.2.2.2.2.2.2.2.2.2.2.2.2.2.2.2.1 r1.2.2.2.2.2.2.2.2.2.2.2.2.2.2.2.2.1 r1.2.2.2.2.2.2.2.2.2.2.2.2.2.2.2.2.2.1 r1.2.2.2.2.2.2.2.2.2.2.2.2.2.2.2.2.2.2.1 r1.2.2.2.2.2.2.2.2.2.2.2.2.2.2.2.2.2.2.2.1 r1.2.2.2.2.2.2.2.2.2.2.2.2.2.2.2.2.2.2.2.2 tried aside]) rfl (b_e1 rfl b_e0) 1 rfl (by decide) (st2 := [.int (f_X11_in i2 (0 : Int32) (r1.1 - (1 : Int32)))]) rfl (fun H locs hw => ?_)
  refine lv_if_eq (tgt := 24) hx hb dX11_freeX_12 (by decide) (fun hc12 => ?_) (fun hc12 => ?_)
  · rw [if_pos hc12] at h
    refine lv_iconst (v := -1) hx hb dX11_freeX_24 (by decide) ?_
    obtain rfl := Option.some.inj h
    exact b_iret hQ hx hb hr hlk hw rfl dX11_freeX_25
  · rw [if_neg hc12] at h
    refine lv_aload_n hx hb dX11_freeX_15 rfl (lv_at hl 0 rfl) ?_
    refine b_get hx hb hT hK hown fl_X11_62 hw 0 0 rfl rfl (v := .ref (a (o+18))) rfl dX11_freeX_16 ?_
    refine lv_iload_n hx hb dX11_freeX_19 rfl (lv_at hl 2 rfl) ?_
    obtain ⟨x2, ex2, hix2, h⟩ := g_rd_some h
    refine b_iald hx hb hK hw 0 18 rfl (f := r1.2.2.2.2.2.2.2.2.2.2.2.2.2.2.2.1) rfl hix2 ex2 dX11_freeX_20 ?_
    refine lv_goto (tgt := 25) hx hb dX11_freeX_21 (by decide) ?_
    obtain rfl := Option.some.inj h
    exact b_iret hQ hx hb hr hlk hw rfl dX11_freeX_25
set_option maxRecDepth 100000 in
set_option maxHeartbeats 4000000 in
theorem c_X11_freeY (l : Launch) (D : va_G) (g : Nat → ClassId) (a : Nat → Nat) (o : Nat) (pasts : Int32) (length : Int32) (printed : Int32) (told : Int32) (state : Int64) (backX : Int32) (backY : Int32) (boxes : Int32) (frees : Int32) (bestFree : Int32) (bestTurned : Int32) (bestFirst : Int32) (bestSecond : Int32) (v : (Nat → Int32)) (spare : (Nat → Int32)) (past : (Nat → Int32)) (kept : (Nat → Int32)) (isKept : (Nat → Int32)) (text : (Nat → Int32)) (paper : (Nat → Int32)) (left : (Nat → Int32)) (top : (Nat → Int32)) (wide : (Nat → Int32)) (high : (Nat → Int32)) (original : (Nat → Int32)) (turn : (Nat → Int32)) (boxX : (Nat → Int32)) (boxY : (Nat → Int32)) (boxW : (Nat → Int32)) (boxH : (Nat → Int32)) (freeAtX : (Nat → Int32)) (freeAtY : (Nat → Int32)) (freeW : (Nat → Int32)) (freeH : (Nat → Int32)) (begins : (Nat → Int32)) (ends : (Nat → Int32)) (tried : (Nat → Int32)) (aside : (Nat → Int32)) (i1 : Int32) (i2 : Int32) (u : Int32 × Int32 × Int32 × Int32 × Int32 × (Nat → Int32) × (Nat → Int32) × (Nat → Int32) × (Nat → Int32) × (Nat → Int32) × (Nat → Int32) × (Nat → Int32) × (Nat → Int32) × (Nat → Int32) × (Nat → Int32) × (Nat → Int32) × (Nat → Int32) × (Nat → Int32) × (Nat → Int32) × (Nat → Int32) × (Nat → Int32)) (h : f_X11_freeY backX backY boxes frees v left top wide high original turn boxX boxY boxW boxH freeAtX freeAtY freeW freeH begins ends i1 i2 = some u) : b_Ct l yX11_freeY cX11_freeY 3 (some .int) 6 146 D g [.ref (a o), .int i1, .int i2] [k_Model g a o pasts length printed told state backX backY boxes frees bestFree bestTurned bestFirst bestSecond v spare past kept isKept text paper left top wide high original turn boxX boxY boxW boxH freeAtX freeAtY freeW freeH begins ends tried aside] [k_Model g a o pasts length printed told state u.2.1 u.2.2.1 u.2.2.2.1 u.2.2.2.2.1 bestFree bestTurned bestFirst bestSecond v spare past kept isKept text paper u.2.2.2.2.2.1 u.2.2.2.2.2.2.1 u.2.2.2.2.2.2.2.1 u.2.2.2.2.2.2.2.2.1 u.2.2.2.2.2.2.2.2.2.1 u.2.2.2.2.2.2.2.2.2.2.1 u.2.2.2.2.2.2.2.2.2.2.2.1 u.2.2.2.2.2.2.2.2.2.2.2.2.1 u.2.2.2.2.2.2.2.2.2.2.2.2.2.1 u.2.2.2.2.2.2.2.2.2.2.2.2.2.2.1 u.2.2.2.2.2.2.2.2.2.2.2.2.2.2.2.1 u.2.2.2.2.2.2.2.2.2.2.2.2.2.2.2.2.1 u.2.2.2.2.2.2.2.2.2.2.2.2.2.2.2.2.2.1 u.2.2.2.2.2.2.2.2.2.2.2.2.2.2.2.2.2.2.1 u.2.2.2.2.2.2.2.2.2.2.2.2.2.2.2.2.2.2.2.1 u.2.2.2.2.2.2.2.2.2.2.2.2.2.2.2.2.2.2.2.2 tried aside] (some (.int u.1)) := by
  refine b_start RX11 (by decide) rfl (Nat.le_of_ble_eq_true rfl) rfl ?_
  intro p e s m args below meth c A ls Q hQ hx hb hr hlk hml hown hT hK hA hw hl
  have hl : lv_has ls 3 [(0, .ref (a o)), (1, .int i1), (2, .int i2)] := hl
  unfold f_X11_freeY at h
  refine lv_iload_n hx hb dX11_freeY_0 rfl (lv_at hl 2 rfl) ?_
  refine lv_iconst (v := 0) hx hb dX11_freeY_1 (by decide) ?_
  refine lv_aload_n hx hb dX11_freeY_2 rfl (lv_at hl 0 rfl) ?_
  refine lv_iload_n hx hb dX11_freeY_3 rfl (lv_at hl 1 rfl) ?_
  obtain ⟨r1, er1, h⟩ := g_cl_some h
  refine b_callV hx hb hml hown hT hK hA hw mk_X11_301 (c_X11_looks l D g a o pasts length printed told state backX backY boxes frees bestFree bestTurned bestFirst bestSecond v spare past kept isKept text paper left top wide high original turn boxX boxY boxW boxH freeAtX freeAtY freeW freeH begins ends tried aside i1 r1 er1) [0] [] rfl (by decide) 0 0 rfl rfl rfl rfl hl.1 [.int (0 : Int32), .int i2] rfl (Nat.le_of_ble_eq_true rfl) ⟨Nat.le_of_ble_eq_true rfl, Nat.le_of_ble_eq_true rfl⟩ ⟨Nat.zero_le _, Nat.zero_le _⟩ dX11_freeY_4 (wb' := [k_Model g a o pasts length printed told state r1.2.1 r1.2.2.1 r1.2.2.2.1 r1.2.2.2.2.1 bestFree bestTurned bestFirst bestSecond v spare past kept isKept text paper r1.2.2.2.2.2.1 r1.2.2.2.2.2.2.1 r1.2.2.2.2.2.2.2.1 r1.2.2.2.2.2.2.2.2.1 r1.2.2.2.2.2.2.2.2.2.1 r1.2.2.2.2.2.2.2.2.2.2.1 r1.2.2.2.2.2.2.2.2.2.2.2.1 r1.2.2.2.2.2.2.2.2.2.2.2.2.1 r1.2.2.2.2.2.2.2.2.2.2.2.2.2.1 r1.2.2.2.2.2.2.2.2.2.2.2.2.2.2.1 r1.2.2.2.2.2.2.2.2.2.2.2.2.2.2.2.1 r1.2.2.2.2.2.2.2.2.2.2.2.2.2.2.2.2.1 r1.2.2.2.2.2.2.2.2.2.2.2.2.2.2.2.2.2.1 r1.2.2.2.2.2.2.2.2.2.2.2.2.2.2.2.2.2.2.1 r1.2.2.2.2.2.2.2.2.2.2.2.2.2.2.2.2.2.2.2.1 r1.2.2.2.2.2.2.2.2.2.2.2.2.2.2.2.2.2.2.2.2 tried aside]) rfl b_e0 1 rfl (by decide) (st2 := [.int r1.1, .int (0 : Int32), .int i2]) rfl (fun H locs hw => ?_)
  refine lv_iconst (v := 1) hx hb dX11_freeY_7 (by decide) ?_
  refine lv_isub hx hb dX11_freeY_8 ?_
  refine b_callS hx hb hml hown hT hK hA hw mk_X11_86 (c_X11_in l D g i2 (0 : Int32) (r1.1 - (1 : Int32))) [] [0] rfl (by decide) rfl hl.1 [] rfl (Nat.le_of_ble_eq_true rfl) ⟨Nat.le_of_ble_eq_true rfl, Nat.le_of_ble_eq_true rfl⟩ ⟨Nat.zero_le _, Nat.zero_le _⟩ dX11_freeY_9 (wb' := [k_Model g a o pasts length printed told state r1.2.1 r1.2.2.1 r1.2.2.2.1 r1.2.2.2.2.1 bestFree bestTurned bestFirst bestSecond v spare past kept isKept text paper r1.2.2.2.2.2.1 r1.2.2.2.2.2.2.1 r1.2.2.2.2.2.2.2.1 r1.2.2.2.2.2.2.2.2.1 r1.2.2.2.2.2.2.2.2.2.1 r1.2.2.2.2.2.2.2.2.2.2.1 r1.2.2.2.2.2.2.2.2.2.2.2.1 r1.2.2.2.2.2.2.2.2.2.2.2.2.1 r1.2.2.2.2.2.2.2.2.2.2.2.2.2.1 r1.2.2.2.2.2.2.2.2.2.2.2.2.2.2.1 r1.2.2.2.2.2.2.2.2.2.2.2.2.2.2.2.1 r1.2.2.2.2.2.2.2.2.2.2.2.2.2.2.2.2.1 r1.2.2.2.2.2.2.2.2.2.2.2.2.2.2.2.2.2.1 r1.2.2.2.2.2.2.2.2.2.2.2.2.2.2.2.2.2.2.1 r1.2.2.2.2.2.2.2.2.2.2.2.2.2.2.2.2.2.2.2.1 r1.2.2.2.2.2.2.2.2.2.2.2.2.2.2.2.2.2.2.2.2 tried aside]) rfl (b_e1 rfl b_e0) 1 rfl (by decide) (st2 := [.int (f_X11_in i2 (0 : Int32) (r1.1 - (1 : Int32)))]) rfl (fun H locs hw => ?_)
  refine lv_if_eq (tgt := 24) hx hb dX11_freeY_12 (by decide) (fun hc12 => ?_) (fun hc12 => ?_)
  · rw [if_pos hc12] at h
    refine lv_iconst (v := -1) hx hb dX11_freeY_24 (by decide) ?_
    obtain rfl := Option.some.inj h
    exact b_iret hQ hx hb hr hlk hw rfl dX11_freeY_25
  · rw [if_neg hc12] at h
    refine lv_aload_n hx hb dX11_freeY_15 rfl (lv_at hl 0 rfl) ?_
    refine b_get hx hb hT hK hown fl_X11_65 hw 0 0 rfl rfl (v := .ref (a (o+19))) rfl dX11_freeY_16 ?_
    refine lv_iload_n hx hb dX11_freeY_19 rfl (lv_at hl 2 rfl) ?_
    obtain ⟨x2, ex2, hix2, h⟩ := g_rd_some h
    refine b_iald hx hb hK hw 0 19 rfl (f := r1.2.2.2.2.2.2.2.2.2.2.2.2.2.2.2.2.1) rfl hix2 ex2 dX11_freeY_20 ?_
    refine lv_goto (tgt := 25) hx hb dX11_freeY_21 (by decide) ?_
    obtain rfl := Option.some.inj h
    exact b_iret hQ hx hb hr hlk hw rfl dX11_freeY_25
set_option maxRecDepth 100000 in
set_option maxHeartbeats 4000000 in
theorem c_X11_freeWidth (l : Launch) (D : va_G) (g : Nat → ClassId) (a : Nat → Nat) (o : Nat) (pasts : Int32) (length : Int32) (printed : Int32) (told : Int32) (state : Int64) (backX : Int32) (backY : Int32) (boxes : Int32) (frees : Int32) (bestFree : Int32) (bestTurned : Int32) (bestFirst : Int32) (bestSecond : Int32) (v : (Nat → Int32)) (spare : (Nat → Int32)) (past : (Nat → Int32)) (kept : (Nat → Int32)) (isKept : (Nat → Int32)) (text : (Nat → Int32)) (paper : (Nat → Int32)) (left : (Nat → Int32)) (top : (Nat → Int32)) (wide : (Nat → Int32)) (high : (Nat → Int32)) (original : (Nat → Int32)) (turn : (Nat → Int32)) (boxX : (Nat → Int32)) (boxY : (Nat → Int32)) (boxW : (Nat → Int32)) (boxH : (Nat → Int32)) (freeAtX : (Nat → Int32)) (freeAtY : (Nat → Int32)) (freeW : (Nat → Int32)) (freeH : (Nat → Int32)) (begins : (Nat → Int32)) (ends : (Nat → Int32)) (tried : (Nat → Int32)) (aside : (Nat → Int32)) (i1 : Int32) (i2 : Int32) (u : Int32 × Int32 × Int32 × Int32 × Int32 × (Nat → Int32) × (Nat → Int32) × (Nat → Int32) × (Nat → Int32) × (Nat → Int32) × (Nat → Int32) × (Nat → Int32) × (Nat → Int32) × (Nat → Int32) × (Nat → Int32) × (Nat → Int32) × (Nat → Int32) × (Nat → Int32) × (Nat → Int32) × (Nat → Int32) × (Nat → Int32)) (h : f_X11_freeWidth backX backY boxes frees v left top wide high original turn boxX boxY boxW boxH freeAtX freeAtY freeW freeH begins ends i1 i2 = some u) : b_Ct l yX11_freeWidth cX11_freeWidth 3 (some .int) 6 146 D g [.ref (a o), .int i1, .int i2] [k_Model g a o pasts length printed told state backX backY boxes frees bestFree bestTurned bestFirst bestSecond v spare past kept isKept text paper left top wide high original turn boxX boxY boxW boxH freeAtX freeAtY freeW freeH begins ends tried aside] [k_Model g a o pasts length printed told state u.2.1 u.2.2.1 u.2.2.2.1 u.2.2.2.2.1 bestFree bestTurned bestFirst bestSecond v spare past kept isKept text paper u.2.2.2.2.2.1 u.2.2.2.2.2.2.1 u.2.2.2.2.2.2.2.1 u.2.2.2.2.2.2.2.2.1 u.2.2.2.2.2.2.2.2.2.1 u.2.2.2.2.2.2.2.2.2.2.1 u.2.2.2.2.2.2.2.2.2.2.2.1 u.2.2.2.2.2.2.2.2.2.2.2.2.1 u.2.2.2.2.2.2.2.2.2.2.2.2.2.1 u.2.2.2.2.2.2.2.2.2.2.2.2.2.2.1 u.2.2.2.2.2.2.2.2.2.2.2.2.2.2.2.1 u.2.2.2.2.2.2.2.2.2.2.2.2.2.2.2.2.1 u.2.2.2.2.2.2.2.2.2.2.2.2.2.2.2.2.2.1 u.2.2.2.2.2.2.2.2.2.2.2.2.2.2.2.2.2.2.1 u.2.2.2.2.2.2.2.2.2.2.2.2.2.2.2.2.2.2.2.1 u.2.2.2.2.2.2.2.2.2.2.2.2.2.2.2.2.2.2.2.2 tried aside] (some (.int u.1)) := by
  refine b_start RX11 (by decide) rfl (Nat.le_of_ble_eq_true rfl) rfl ?_
  intro p e s m args below meth c A ls Q hQ hx hb hr hlk hml hown hT hK hA hw hl
  have hl : lv_has ls 3 [(0, .ref (a o)), (1, .int i1), (2, .int i2)] := hl
  unfold f_X11_freeWidth at h
  refine lv_iload_n hx hb dX11_freeWidth_0 rfl (lv_at hl 2 rfl) ?_
  refine lv_iconst (v := 0) hx hb dX11_freeWidth_1 (by decide) ?_
  refine lv_aload_n hx hb dX11_freeWidth_2 rfl (lv_at hl 0 rfl) ?_
  refine lv_iload_n hx hb dX11_freeWidth_3 rfl (lv_at hl 1 rfl) ?_
  obtain ⟨r1, er1, h⟩ := g_cl_some h
  refine b_callV hx hb hml hown hT hK hA hw mk_X11_301 (c_X11_looks l D g a o pasts length printed told state backX backY boxes frees bestFree bestTurned bestFirst bestSecond v spare past kept isKept text paper left top wide high original turn boxX boxY boxW boxH freeAtX freeAtY freeW freeH begins ends tried aside i1 r1 er1) [0] [] rfl (by decide) 0 0 rfl rfl rfl rfl hl.1 [.int (0 : Int32), .int i2] rfl (Nat.le_of_ble_eq_true rfl) ⟨Nat.le_of_ble_eq_true rfl, Nat.le_of_ble_eq_true rfl⟩ ⟨Nat.zero_le _, Nat.zero_le _⟩ dX11_freeWidth_4 (wb' := [k_Model g a o pasts length printed told state r1.2.1 r1.2.2.1 r1.2.2.2.1 r1.2.2.2.2.1 bestFree bestTurned bestFirst bestSecond v spare past kept isKept text paper r1.2.2.2.2.2.1 r1.2.2.2.2.2.2.1 r1.2.2.2.2.2.2.2.1 r1.2.2.2.2.2.2.2.2.1 r1.2.2.2.2.2.2.2.2.2.1 r1.2.2.2.2.2.2.2.2.2.2.1 r1.2.2.2.2.2.2.2.2.2.2.2.1 r1.2.2.2.2.2.2.2.2.2.2.2.2.1 r1.2.2.2.2.2.2.2.2.2.2.2.2.2.1 r1.2.2.2.2.2.2.2.2.2.2.2.2.2.2.1 r1.2.2.2.2.2.2.2.2.2.2.2.2.2.2.2.1 r1.2.2.2.2.2.2.2.2.2.2.2.2.2.2.2.2.1 r1.2.2.2.2.2.2.2.2.2.2.2.2.2.2.2.2.2.1 r1.2.2.2.2.2.2.2.2.2.2.2.2.2.2.2.2.2.2.1 r1.2.2.2.2.2.2.2.2.2.2.2.2.2.2.2.2.2.2.2.1 r1.2.2.2.2.2.2.2.2.2.2.2.2.2.2.2.2.2.2.2.2 tried aside]) rfl b_e0 1 rfl (by decide) (st2 := [.int r1.1, .int (0 : Int32), .int i2]) rfl (fun H locs hw => ?_)
  refine lv_iconst (v := 1) hx hb dX11_freeWidth_7 (by decide) ?_
  refine lv_isub hx hb dX11_freeWidth_8 ?_
  refine b_callS hx hb hml hown hT hK hA hw mk_X11_86 (c_X11_in l D g i2 (0 : Int32) (r1.1 - (1 : Int32))) [] [0] rfl (by decide) rfl hl.1 [] rfl (Nat.le_of_ble_eq_true rfl) ⟨Nat.le_of_ble_eq_true rfl, Nat.le_of_ble_eq_true rfl⟩ ⟨Nat.zero_le _, Nat.zero_le _⟩ dX11_freeWidth_9 (wb' := [k_Model g a o pasts length printed told state r1.2.1 r1.2.2.1 r1.2.2.2.1 r1.2.2.2.2.1 bestFree bestTurned bestFirst bestSecond v spare past kept isKept text paper r1.2.2.2.2.2.1 r1.2.2.2.2.2.2.1 r1.2.2.2.2.2.2.2.1 r1.2.2.2.2.2.2.2.2.1 r1.2.2.2.2.2.2.2.2.2.1 r1.2.2.2.2.2.2.2.2.2.2.1 r1.2.2.2.2.2.2.2.2.2.2.2.1 r1.2.2.2.2.2.2.2.2.2.2.2.2.1 r1.2.2.2.2.2.2.2.2.2.2.2.2.2.1 r1.2.2.2.2.2.2.2.2.2.2.2.2.2.2.1 r1.2.2.2.2.2.2.2.2.2.2.2.2.2.2.2.1 r1.2.2.2.2.2.2.2.2.2.2.2.2.2.2.2.2.1 r1.2.2.2.2.2.2.2.2.2.2.2.2.2.2.2.2.2.1 r1.2.2.2.2.2.2.2.2.2.2.2.2.2.2.2.2.2.2.1 r1.2.2.2.2.2.2.2.2.2.2.2.2.2.2.2.2.2.2.2.1 r1.2.2.2.2.2.2.2.2.2.2.2.2.2.2.2.2.2.2.2.2 tried aside]) rfl (b_e1 rfl b_e0) 1 rfl (by decide) (st2 := [.int (f_X11_in i2 (0 : Int32) (r1.1 - (1 : Int32)))]) rfl (fun H locs hw => ?_)
  refine lv_if_eq (tgt := 24) hx hb dX11_freeWidth_12 (by decide) (fun hc12 => ?_) (fun hc12 => ?_)
  · rw [if_pos hc12] at h
    refine lv_iconst (v := -1) hx hb dX11_freeWidth_24 (by decide) ?_
    obtain rfl := Option.some.inj h
    exact b_iret hQ hx hb hr hlk hw rfl dX11_freeWidth_25
  · rw [if_neg hc12] at h
    refine lv_aload_n hx hb dX11_freeWidth_15 rfl (lv_at hl 0 rfl) ?_
    refine b_get hx hb hT hK hown fl_X11_68 hw 0 0 rfl rfl (v := .ref (a (o+20))) rfl dX11_freeWidth_16 ?_
    refine lv_iload_n hx hb dX11_freeWidth_19 rfl (lv_at hl 2 rfl) ?_
    obtain ⟨x2, ex2, hix2, h⟩ := g_rd_some h
    refine b_iald hx hb hK hw 0 20 rfl (f := r1.2.2.2.2.2.2.2.2.2.2.2.2.2.2.2.2.2.1) rfl hix2 ex2 dX11_freeWidth_20 ?_
    refine lv_goto (tgt := 25) hx hb dX11_freeWidth_21 (by decide) ?_
    obtain rfl := Option.some.inj h
    exact b_iret hQ hx hb hr hlk hw rfl dX11_freeWidth_25
