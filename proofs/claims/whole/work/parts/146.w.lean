set_option maxRecDepth 100000 in
set_option maxHeartbeats 4000000 in
theorem c_X11_boxesOf (l : Launch) (D : va_G) (g : Nat → ClassId) (a : Nat → Nat) (o : Nat) (pasts : Int32) (length : Int32) (printed : Int32) (told : Int32) (state : Int64) (backX : Int32) (backY : Int32) (boxes : Int32) (frees : Int32) (bestFree : Int32) (bestTurned : Int32) (bestFirst : Int32) (bestSecond : Int32) (v : (Nat → Int32)) (spare : (Nat → Int32)) (past : (Nat → Int32)) (kept : (Nat → Int32)) (isKept : (Nat → Int32)) (text : (Nat → Int32)) (paper : (Nat → Int32)) (left : (Nat → Int32)) (top : (Nat → Int32)) (wide : (Nat → Int32)) (high : (Nat → Int32)) (original : (Nat → Int32)) (turn : (Nat → Int32)) (boxX : (Nat → Int32)) (boxY : (Nat → Int32)) (boxW : (Nat → Int32)) (boxH : (Nat → Int32)) (freeAtX : (Nat → Int32)) (freeAtY : (Nat → Int32)) (freeW : (Nat → Int32)) (freeH : (Nat → Int32)) (begins : (Nat → Int32)) (ends : (Nat → Int32)) (tried : (Nat → Int32)) (aside : (Nat → Int32)) (i1 : Int32) (u : Int32 × (Nat → Int32) × (Nat → Int32) × (Nat → Int32) × (Nat → Int32)) (h : f_X11_boxesOf v wide high boxX boxY boxW boxH i1 = some u) : b_Ct l yX11_boxesOf cX11_boxesOf 4 none 2 44 D g [.ref (a o), .int i1] [k_Model g a o pasts length printed told state backX backY boxes frees bestFree bestTurned bestFirst bestSecond v spare past kept isKept text paper left top wide high original turn boxX boxY boxW boxH freeAtX freeAtY freeW freeH begins ends tried aside] [k_Model g a o pasts length printed told state backX backY u.1 frees bestFree bestTurned bestFirst bestSecond v spare past kept isKept text paper left top wide high original turn u.2.1 u.2.2.1 u.2.2.2.1 u.2.2.2.2 freeAtX freeAtY freeW freeH begins ends tried aside] none := by
  refine b_start RX11 (by decide) rfl (Nat.le_of_ble_eq_true rfl) rfl ?_
  intro p e s m args below meth c A ls Q hQ hx hb hr hlk hml hown hT hK hA hw hl
  have hl : lv_has ls 4 [(0, .ref (a o)), (1, .int i1)] := hl
  unfold f_X11_boxesOf at h
  refine lv_aload_n hx hb dX11_boxesOf_0 rfl (lv_at hl 0 rfl) ?_
  refine lv_iconst (v := 0) hx hb dX11_boxesOf_1 (by decide) ?_
  refine b_putf hx hb hT hK hown fl_X11_185 ft_X11 hw 0 0 rfl rfl rfl rfl rfl (Nat.le_of_ble_eq_true rfl) rfl (wb' := [k_Model g a o pasts length printed told state backX backY (0 : Int32) frees bestFree bestTurned bestFirst bestSecond v spare past kept isKept text paper left top wide high original turn boxX boxY boxW boxH freeAtX freeAtY freeW freeH begins ends tried aside]) rfl dX11_boxesOf_2 (fun H locs hw => ?_)
  refine lv_iconst (v := 0) hx hb dX11_boxesOf_5 (by decide) ?_
  refine lv_istore_n (lv' := [(2, .int (0 : Int32)), (0, .ref (a o)), (1, .int i1)]) hx hb dX11_boxesOf_6 rfl hl (by decide) rfl (fun ls hl => ?_)
  have hL7 : ∀ (n : Nat) (x1 : Int32) (x2 : Int32) (f3 : Nat → Int32) (f4 : Nat → Int32) (f5 : Nat → Int32) (f6 : Nat → Int32) (H : Heap) (locs : List Loc) (ls : Array Slot), b_Wd D A s.heap H locs [k_Model g a o pasts length printed told state backX backY x2 frees bestFree bestTurned bestFirst bestSecond v spare past kept isKept text paper left top wide high original turn f3 f4 f5 f6 freeAtX freeAtY freeW freeH begins ends tried aside] → lv_has ls 4 [(0, .ref (a o)), (1, .int i1), (2, .int x1)] → f_X11_boxesOf_L7 v wide high i1 n x1 x2 f3 f4 f5 f6 = some u → W p l e (g_rm 2 44) s m args below meth c H locs 0 0 Q (F0 m 7 ls []) := by
    intro n
    induction n with
    | zero =>
      intro x1 x2 f3 f4 f5 f6 H locs ls hw hl h
      cases (show none = some u from h)
    | succ n ih7 =>
      intro x1 x2 f3 f4 f5 f6 H locs ls hw hl h
      rw [f_X11_boxesOf_L7] at h
      refine lv_iload_n hx hb dX11_boxesOf_7 rfl (lv_at hl 2 rfl) ?_
      refine lv_aload_n hx hb dX11_boxesOf_8 rfl (lv_at hl 0 rfl) ?_
      refine b_get hx hb hT hK hown fl_X11_7 hw 0 0 rfl rfl (v := .ref (a (o+1))) rfl dX11_boxesOf_9 ?_
      refine lv_iconst (v := 0) hx hb dX11_boxesOf_12 (by decide) ?_
      obtain ⟨x7, ex7, hix7, h⟩ := g_rd_some h
      refine b_iald hx hb hK hw 0 1 rfl (f := v) rfl hix7 ex7 dX11_boxesOf_13 ?_
      refine lv_icmp_ge (tgt := 218) hx hb dX11_boxesOf_14 (by decide) (fun hc14 => ?_) (fun hc14 => ?_)
      · rw [if_pos hc14] at h
        obtain rfl := Option.some.inj h
        exact b_vret hQ hx hb hr hlk hw rfl dX11_boxesOf_218
      · rw [if_neg hc14] at h
        refine lv_aload_n hx hb dX11_boxesOf_17 rfl (lv_at hl 0 rfl) ?_
        refine b_get hx hb hT hK hown fl_X11_7 hw 0 0 rfl rfl (v := .ref (a (o+1))) rfl dX11_boxesOf_18 ?_
        refine lv_iload_n hx hb dX11_boxesOf_21 rfl (lv_at hl 2 rfl) ?_
        refine lv_iconst (v := 3) hx hb dX11_boxesOf_22 (by decide) ?_
        refine b_callS hx hb hml hown hT hK hA hw mk_X11_94 (c_X11_at l D g x1 (3 : Int32)) [] [0] rfl (by decide) rfl hl.1 [.ref (a (o+1))] rfl (Nat.le_of_ble_eq_true rfl) ⟨Nat.le_of_ble_eq_true rfl, Nat.le_of_ble_eq_true rfl⟩ ⟨Nat.zero_le _, Nat.zero_le _⟩ dX11_boxesOf_23 (wb' := [k_Model g a o pasts length printed told state backX backY x2 frees bestFree bestTurned bestFirst bestSecond v spare past kept isKept text paper left top wide high original turn f3 f4 f5 f6 freeAtX freeAtY freeW freeH begins ends tried aside]) rfl (b_e1 rfl b_e0) 1 rfl (by decide) (st2 := [.int (f_X11_at x1 (3 : Int32)), .ref (a (o+1))]) rfl (fun H locs hw => ?_)
        obtain ⟨x8, ex8, hix8, h⟩ := g_rd_some h
        refine b_iald hx hb hK hw 0 1 rfl (f := v) rfl hix8 ex8 dX11_boxesOf_26 ?_
        refine lv_iload_n hx hb dX11_boxesOf_27 rfl (lv_at hl 1 rfl) ?_
        obtain ⟨j212_13, ej212_13, h⟩ := g_jn_nm h
        have hj212_13 : ∀ (x9 : Int32) (f10 : Nat → Int32) (f11 : Nat → Int32) (f12 : Nat → Int32) (f13 : Nat → Int32) (H : Heap) (locs : List Loc) (ls : Array Slot), b_Wd D A s.heap H locs [k_Model g a o pasts length printed told state backX backY x9 frees bestFree bestTurned bestFirst bestSecond v spare past kept isKept text paper left top wide high original turn f10 f11 f12 f13 freeAtX freeAtY freeW freeH begins ends tried aside] → lv_has ls 4 [(0, .ref (a o)), (1, .int i1), (2, .int x1)] → j212_13 x9 f10 f11 f12 f13 = some u → W p l e (g_rm 2 44) s m args below meth c H locs 0 0 Q (F0 m 212 ls []) := by
          intro x9 f10 f11 f12 f13 H locs ls hw hl h
          subst ej212_13
          dsimp only at h
          obtain ⟨x15, ex15, h⟩ := g_bd_nm h
          refine lv_iinc (v := x15) (lv' := [(2, .int x15), (0, .ref (a o)), (1, .int i1)]) hx hb dX11_boxesOf_212 hl (k := 2) rfl (by rw [ex15]; rfl) (by decide) rfl (fun ls hl => ?_)
          refine lv_goto (tgt := 7) hx hb dX11_boxesOf_215 (by decide) ?_
          exact ih7 x15 x9 f10 f11 f12 f13 _ _ _ hw (lv_sub hl [1, 2, 0] rfl) h
        refine lv_icmp_eq (tgt := 34) hx hb dX11_boxesOf_28 (by decide) (fun hc28 => ?_) (fun hc28 => ?_)
        · rw [if_pos hc28] at h
          refine lv_aload_n hx hb dX11_boxesOf_34 rfl (lv_at hl 0 rfl) ?_
          refine b_get hx hb hT hK hown fl_X11_185 hw 0 0 rfl rfl (v := .int x2) rfl dX11_boxesOf_35 ?_
          refine lv_istore_n (lv' := [(3, .int x2), (0, .ref (a o)), (1, .int i1), (2, .int x1)]) hx hb dX11_boxesOf_38 rfl hl (by decide) rfl (fun ls hl => ?_)
          obtain ⟨k126_20, ek126_20, h⟩ := g_jn_nm h
          have hk126_20 : ∀ (x16 : Int32) (f17 : Nat → Int32) (f18 : Nat → Int32) (f19 : Nat → Int32) (f20 : Nat → Int32) (H : Heap) (locs : List Loc) (ls : Array Slot), b_Wd D A s.heap H locs [k_Model g a o pasts length printed told state backX backY x2 frees bestFree bestTurned bestFirst bestSecond v spare past kept isKept text paper left top wide high original turn f17 f18 f19 f20 freeAtX freeAtY freeW freeH begins ends tried aside] → lv_has ls 4 [(0, .ref (a o)), (1, .int i1), (2, .int x1), (3, .int x16)] → k126_20 x16 f17 f18 f19 f20 = some u → W p l e (g_rm 2 44) s m args below meth c H locs 0 0 Q (F0 m 126 ls []) := by
            intro x16 f17 f18 f19 f20 H locs ls hw hl h
            subst ek126_20
            dsimp only at h
            refine lv_aload_n hx hb dX11_boxesOf_126 rfl (lv_at hl 0 rfl) ?_
            refine b_get hx hb hT hK hown fl_X11_50 hw 0 0 rfl rfl (v := .ref (a (o+14))) rfl dX11_boxesOf_127 ?_
            refine lv_iload_n hx hb dX11_boxesOf_130 rfl (lv_at hl 3 rfl) ?_
            refine lv_aload_n hx hb dX11_boxesOf_131 rfl (lv_at hl 0 rfl) ?_
            refine b_get hx hb hT hK hown fl_X11_7 hw 0 0 rfl rfl (v := .ref (a (o+1))) rfl dX11_boxesOf_132 ?_
            refine lv_iload_n hx hb dX11_boxesOf_135 rfl (lv_at hl 2 rfl) ?_
            refine lv_iconst (v := 4) hx hb dX11_boxesOf_136 (by decide) ?_
            refine b_callS hx hb hml hown hT hK hA hw mk_X11_94 (c_X11_at l D g x1 (4 : Int32)) [] [0] rfl (by decide) rfl hl.1 [.ref (a (o+1)), .int x16, .ref (a (o+14))] rfl (Nat.le_of_ble_eq_true rfl) ⟨Nat.le_of_ble_eq_true rfl, Nat.le_of_ble_eq_true rfl⟩ ⟨Nat.zero_le _, Nat.zero_le _⟩ dX11_boxesOf_137 (wb' := [k_Model g a o pasts length printed told state backX backY x2 frees bestFree bestTurned bestFirst bestSecond v spare past kept isKept text paper left top wide high original turn f17 f18 f19 f20 freeAtX freeAtY freeW freeH begins ends tried aside]) rfl (b_e1 rfl b_e0) 1 rfl (by decide) (st2 := [.int (f_X11_at x1 (4 : Int32)), .ref (a (o+1)), .int x16, .ref (a (o+14))]) rfl (fun H locs hw => ?_)
            obtain ⟨x22, ex22, hix22, h⟩ := g_rd_some h
            refine b_iald hx hb hK hw 0 1 rfl (f := v) rfl hix22 ex22 dX11_boxesOf_140 ?_
            obtain ⟨f23, ef23, hif23, h⟩ := g_wr_some h
            refine b_iast hx hb hK hw 0 14 rfl (f := f17) rfl hif23 ef23 rfl (wb' := [k_Model g a o pasts length printed told state backX backY x2 frees bestFree bestTurned bestFirst bestSecond v spare past kept isKept text paper left top wide high original turn f23 f18 f19 f20 freeAtX freeAtY freeW freeH begins ends tried aside]) rfl dX11_boxesOf_141 (fun H locs hw => ?_)
            refine lv_aload_n hx hb dX11_boxesOf_142 rfl (lv_at hl 0 rfl) ?_
            refine b_get hx hb hT hK hown fl_X11_53 hw 0 0 rfl rfl (v := .ref (a (o+15))) rfl dX11_boxesOf_143 ?_
            refine lv_iload_n hx hb dX11_boxesOf_146 rfl (lv_at hl 3 rfl) ?_
            refine lv_aload_n hx hb dX11_boxesOf_147 rfl (lv_at hl 0 rfl) ?_
            refine b_get hx hb hT hK hown fl_X11_7 hw 0 0 rfl rfl (v := .ref (a (o+1))) rfl dX11_boxesOf_148 ?_
            refine lv_iload_n hx hb dX11_boxesOf_151 rfl (lv_at hl 2 rfl) ?_
            refine lv_iconst (v := 5) hx hb dX11_boxesOf_152 (by decide) ?_
            refine b_callS hx hb hml hown hT hK hA hw mk_X11_94 (c_X11_at l D g x1 (5 : Int32)) [] [0] rfl (by decide) rfl hl.1 [.ref (a (o+1)), .int x16, .ref (a (o+15))] rfl (Nat.le_of_ble_eq_true rfl) ⟨Nat.le_of_ble_eq_true rfl, Nat.le_of_ble_eq_true rfl⟩ ⟨Nat.zero_le _, Nat.zero_le _⟩ dX11_boxesOf_153 (wb' := [k_Model g a o pasts length printed told state backX backY x2 frees bestFree bestTurned bestFirst bestSecond v spare past kept isKept text paper left top wide high original turn f23 f18 f19 f20 freeAtX freeAtY freeW freeH begins ends tried aside]) rfl (b_e1 rfl b_e0) 1 rfl (by decide) (st2 := [.int (f_X11_at x1 (5 : Int32)), .ref (a (o+1)), .int x16, .ref (a (o+15))]) rfl (fun H locs hw => ?_)
            obtain ⟨x24, ex24, hix24, h⟩ := g_rd_some h
            refine b_iald hx hb hK hw 0 1 rfl (f := v) rfl hix24 ex24 dX11_boxesOf_156 ?_
            obtain ⟨f25, ef25, hif25, h⟩ := g_wr_some h
            refine b_iast hx hb hK hw 0 15 rfl (f := f18) rfl hif25 ef25 rfl (wb' := [k_Model g a o pasts length printed told state backX backY x2 frees bestFree bestTurned bestFirst bestSecond v spare past kept isKept text paper left top wide high original turn f23 f25 f19 f20 freeAtX freeAtY freeW freeH begins ends tried aside]) rfl dX11_boxesOf_157 (fun H locs hw => ?_)
            refine lv_aload_n hx hb dX11_boxesOf_158 rfl (lv_at hl 0 rfl) ?_
            refine b_get hx hb hT hK hown fl_X11_56 hw 0 0 rfl rfl (v := .ref (a (o+16))) rfl dX11_boxesOf_159 ?_
            refine lv_iload_n hx hb dX11_boxesOf_162 rfl (lv_at hl 3 rfl) ?_
            refine lv_aload_n hx hb dX11_boxesOf_163 rfl (lv_at hl 0 rfl) ?_
            refine lv_iload_n hx hb dX11_boxesOf_164 rfl (lv_at hl 2 rfl) ?_
            refine lv_aload_n hx hb dX11_boxesOf_165 rfl (lv_at hl 0 rfl) ?_
            refine b_get hx hb hT hK hown fl_X11_7 hw 0 0 rfl rfl (v := .ref (a (o+1))) rfl dX11_boxesOf_166 ?_
            refine lv_iload_n hx hb dX11_boxesOf_169 rfl (lv_at hl 2 rfl) ?_
            refine lv_bipush (v := 6) hx hb dX11_boxesOf_170 (by decide) ?_
            refine b_callS hx hb hml hown hT hK hA hw mk_X11_94 (c_X11_at l D g x1 (6 : Int32)) [] [0] rfl (by decide) rfl hl.1 [.ref (a (o+1)), .int x1, .ref (a o), .int x16, .ref (a (o+16))] rfl (Nat.le_of_ble_eq_true rfl) ⟨Nat.le_of_ble_eq_true rfl, Nat.le_of_ble_eq_true rfl⟩ ⟨Nat.zero_le _, Nat.zero_le _⟩ dX11_boxesOf_172 (wb' := [k_Model g a o pasts length printed told state backX backY x2 frees bestFree bestTurned bestFirst bestSecond v spare past kept isKept text paper left top wide high original turn f23 f25 f19 f20 freeAtX freeAtY freeW freeH begins ends tried aside]) rfl (b_e1 rfl b_e0) 1 rfl (by decide) (st2 := [.int (f_X11_at x1 (6 : Int32)), .ref (a (o+1)), .int x1, .ref (a o), .int x16, .ref (a (o+16))]) rfl (fun H locs hw => ?_)
            obtain ⟨x26, ex26, hix26, h⟩ := g_rd_some h
            refine b_iald hx hb hK hw 0 1 rfl (f := v) rfl hix26 ex26 dX11_boxesOf_175 ?_
            obtain ⟨r27, er27, h⟩ := g_cl_some h
            refine b_callV hx hb hml hown hT hK hA hw mk_X11_188 (c_X11_boxWidth l D g a o pasts length printed told state backX backY x2 frees bestFree bestTurned bestFirst bestSecond v spare past kept isKept text paper left top wide high original turn f23 f25 f19 f20 freeAtX freeAtY freeW freeH begins ends tried aside x1 x26 r27 er27) [0] [] rfl (by decide) 0 0 rfl rfl rfl rfl hl.1 [.int x16, .ref (a (o+16))] rfl (Nat.le_of_ble_eq_true rfl) ⟨Nat.le_of_ble_eq_true rfl, Nat.le_of_ble_eq_true rfl⟩ ⟨Nat.zero_le _, Nat.zero_le _⟩ dX11_boxesOf_176 (wb' := [k_Model g a o pasts length printed told state backX backY x2 frees bestFree bestTurned bestFirst bestSecond v spare past kept isKept text paper left top wide high original turn f23 f25 f19 f20 freeAtX freeAtY freeW freeH begins ends tried aside]) rfl b_e0 1 rfl (by decide) (st2 := [.int r27, .int x16, .ref (a (o+16))]) rfl (fun H locs hw => ?_)
            obtain ⟨f28, ef28, hif28, h⟩ := g_wr_some h
            refine b_iast hx hb hK hw 0 16 rfl (f := f19) rfl hif28 ef28 rfl (wb' := [k_Model g a o pasts length printed told state backX backY x2 frees bestFree bestTurned bestFirst bestSecond v spare past kept isKept text paper left top wide high original turn f23 f25 f28 f20 freeAtX freeAtY freeW freeH begins ends tried aside]) rfl dX11_boxesOf_179 (fun H locs hw => ?_)
            refine lv_aload_n hx hb dX11_boxesOf_180 rfl (lv_at hl 0 rfl) ?_
            refine b_get hx hb hT hK hown fl_X11_59 hw 0 0 rfl rfl (v := .ref (a (o+17))) rfl dX11_boxesOf_181 ?_
            refine lv_iload_n hx hb dX11_boxesOf_184 rfl (lv_at hl 3 rfl) ?_
            refine lv_aload_n hx hb dX11_boxesOf_185 rfl (lv_at hl 0 rfl) ?_
            refine lv_iload_n hx hb dX11_boxesOf_186 rfl (lv_at hl 2 rfl) ?_
            refine lv_aload_n hx hb dX11_boxesOf_187 rfl (lv_at hl 0 rfl) ?_
            refine b_get hx hb hT hK hown fl_X11_7 hw 0 0 rfl rfl (v := .ref (a (o+1))) rfl dX11_boxesOf_188 ?_
            refine lv_iload_n hx hb dX11_boxesOf_191 rfl (lv_at hl 2 rfl) ?_
            refine lv_bipush (v := 6) hx hb dX11_boxesOf_192 (by decide) ?_
            refine b_callS hx hb hml hown hT hK hA hw mk_X11_94 (c_X11_at l D g x1 (6 : Int32)) [] [0] rfl (by decide) rfl hl.1 [.ref (a (o+1)), .int x1, .ref (a o), .int x16, .ref (a (o+17))] rfl (Nat.le_of_ble_eq_true rfl) ⟨Nat.le_of_ble_eq_true rfl, Nat.le_of_ble_eq_true rfl⟩ ⟨Nat.zero_le _, Nat.zero_le _⟩ dX11_boxesOf_194 (wb' := [k_Model g a o pasts length printed told state backX backY x2 frees bestFree bestTurned bestFirst bestSecond v spare past kept isKept text paper left top wide high original turn f23 f25 f28 f20 freeAtX freeAtY freeW freeH begins ends tried aside]) rfl (b_e1 rfl b_e0) 1 rfl (by decide) (st2 := [.int (f_X11_at x1 (6 : Int32)), .ref (a (o+1)), .int x1, .ref (a o), .int x16, .ref (a (o+17))]) rfl (fun H locs hw => ?_)
            obtain ⟨x29, ex29, hix29, h⟩ := g_rd_some h
            refine b_iald hx hb hK hw 0 1 rfl (f := v) rfl hix29 ex29 dX11_boxesOf_197 ?_
            obtain ⟨r30, er30, h⟩ := g_cl_some h
            refine b_callV hx hb hml hown hT hK hA hw mk_X11_191 (c_X11_boxHeight l D g a o pasts length printed told state backX backY x2 frees bestFree bestTurned bestFirst bestSecond v spare past kept isKept text paper left top wide high original turn f23 f25 f28 f20 freeAtX freeAtY freeW freeH begins ends tried aside x1 x29 r30 er30) [0] [] rfl (by decide) 0 0 rfl rfl rfl rfl hl.1 [.int x16, .ref (a (o+17))] rfl (Nat.le_of_ble_eq_true rfl) ⟨Nat.le_of_ble_eq_true rfl, Nat.le_of_ble_eq_true rfl⟩ ⟨Nat.zero_le _, Nat.zero_le _⟩ dX11_boxesOf_198 (wb' := [k_Model g a o pasts length printed told state backX backY x2 frees bestFree bestTurned bestFirst bestSecond v spare past kept isKept text paper left top wide high original turn f23 f25 f28 f20 freeAtX freeAtY freeW freeH begins ends tried aside]) rfl b_e0 1 rfl (by decide) (st2 := [.int r30, .int x16, .ref (a (o+17))]) rfl (fun H locs hw => ?_)
            obtain ⟨f31, ef31, hif31, h⟩ := g_wr_some h
            refine b_iast hx hb hK hw 0 17 rfl (f := f20) rfl hif31 ef31 rfl (wb' := [k_Model g a o pasts length printed told state backX backY x2 frees bestFree bestTurned bestFirst bestSecond v spare past kept isKept text paper left top wide high original turn f23 f25 f28 f31 freeAtX freeAtY freeW freeH begins ends tried aside]) rfl dX11_boxesOf_201 (fun H locs hw => ?_)
            refine lv_aload_n hx hb dX11_boxesOf_202 rfl (lv_at hl 0 rfl) ?_
            refine lv_dup hx hb dX11_boxesOf_203 rfl ?_
            refine b_get hx hb hT hK hown fl_X11_185 hw 0 0 rfl rfl (v := .int x2) rfl dX11_boxesOf_204 ?_
            refine lv_iconst (v := 1) hx hb dX11_boxesOf_207 (by decide) ?_
            refine lv_iadd hx hb dX11_boxesOf_208 ?_
            obtain ⟨x32, ex32, h⟩ := g_bd_nm h
            refine g_topi ex32 ?_
            refine b_putf hx hb hT hK hown fl_X11_185 ft_X11 hw 0 0 rfl rfl rfl rfl rfl (Nat.le_of_ble_eq_true rfl) rfl (wb' := [k_Model g a o pasts length printed told state backX backY x32 frees bestFree bestTurned bestFirst bestSecond v spare past kept isKept text paper left top wide high original turn f23 f25 f28 f31 freeAtX freeAtY freeW freeH begins ends tried aside]) rfl dX11_boxesOf_209 (fun H locs hw => ?_)
            exact hj212_13 x32 f23 f25 f28 f31 _ _ _ hw (lv_sub hl [0, 1, 2] rfl) h
          have hL39 : ∀ (n : Nat) (x33 : Int32) (f34 : Nat → Int32) (f35 : Nat → Int32) (f36 : Nat → Int32) (f37 : Nat → Int32) (H : Heap) (locs : List Loc) (ls : Array Slot), b_Wd D A s.heap H locs [k_Model g a o pasts length printed told state backX backY x2 frees bestFree bestTurned bestFirst bestSecond v spare past kept isKept text paper left top wide high original turn f34 f35 f36 f37 freeAtX freeAtY freeW freeH begins ends tried aside] → lv_has ls 4 [(0, .ref (a o)), (1, .int i1), (2, .int x1), (3, .int x33)] → f_X11_boxesOf_L39 v x1 k126_20 n x33 f34 f35 f36 f37 = some u → W p l e (g_rm 2 44) s m args below meth c H locs 0 0 Q (F0 m 39 ls []) := by
            intro n
            induction n with
            | zero =>
              intro x33 f34 f35 f36 f37 H locs ls hw hl h
              cases (show none = some u from h)
            | succ n ih39 =>
              intro x33 f34 f35 f36 f37 H locs ls hw hl h
              rw [f_X11_boxesOf_L39] at h
              refine lv_iload_n hx hb dX11_boxesOf_39 rfl (lv_at hl 3 rfl) ?_
              refine lv_if_le (tgt := 126) hx hb dX11_boxesOf_40 (by decide) (fun hc40 => ?_) (fun hc40 => ?_)
              · rw [if_pos hc40] at h
                exact hk126_20 x33 f34 f35 f36 f37 _ _ _ hw (lv_sub hl [0, 1, 2, 3] rfl) h
              · rw [if_neg hc40] at h
                refine lv_aload_n hx hb dX11_boxesOf_43 rfl (lv_at hl 0 rfl) ?_
                refine b_get hx hb hT hK hown fl_X11_53 hw 0 0 rfl rfl (v := .ref (a (o+15))) rfl dX11_boxesOf_44 ?_
                refine lv_iload_n hx hb dX11_boxesOf_47 rfl (lv_at hl 3 rfl) ?_
                refine lv_iconst (v := 1) hx hb dX11_boxesOf_48 (by decide) ?_
                refine lv_isub hx hb dX11_boxesOf_49 ?_
                obtain ⟨x38, ex38, hix38, h⟩ := g_rd_some h
                refine b_iald hx hb hK hw 0 15 rfl (f := f35) rfl hix38 ex38 dX11_boxesOf_50 ?_
                refine lv_aload_n hx hb dX11_boxesOf_51 rfl (lv_at hl 0 rfl) ?_
                refine b_get hx hb hT hK hown fl_X11_7 hw 0 0 rfl rfl (v := .ref (a (o+1))) rfl dX11_boxesOf_52 ?_
                refine lv_iload_n hx hb dX11_boxesOf_55 rfl (lv_at hl 2 rfl) ?_
                refine lv_iconst (v := 5) hx hb dX11_boxesOf_56 (by decide) ?_
                refine b_callS hx hb hml hown hT hK hA hw mk_X11_94 (c_X11_at l D g x1 (5 : Int32)) [] [0] rfl (by decide) rfl hl.1 [.ref (a (o+1)), .int x38] rfl (Nat.le_of_ble_eq_true rfl) ⟨Nat.le_of_ble_eq_true rfl, Nat.le_of_ble_eq_true rfl⟩ ⟨Nat.zero_le _, Nat.zero_le _⟩ dX11_boxesOf_57 (wb' := [k_Model g a o pasts length printed told state backX backY x2 frees bestFree bestTurned bestFirst bestSecond v spare past kept isKept text paper left top wide high original turn f34 f35 f36 f37 freeAtX freeAtY freeW freeH begins ends tried aside]) rfl (b_e1 rfl b_e0) 1 rfl (by decide) (st2 := [.int (f_X11_at x1 (5 : Int32)), .ref (a (o+1)), .int x38]) rfl (fun H locs hw => ?_)
                obtain ⟨x39, ex39, hix39, h⟩ := g_rd_some h
                refine b_iald hx hb hK hw 0 1 rfl (f := v) rfl hix39 ex39 dX11_boxesOf_60 ?_
                refine lv_icmp_le (tgt := 126) hx hb dX11_boxesOf_61 (by decide) (fun hc61 => ?_) (fun hc61 => ?_)
                · rw [if_pos hc61] at h
                  exact hk126_20 x33 f34 f35 f36 f37 _ _ _ hw (lv_sub hl [0, 1, 2, 3] rfl) h
                · rw [if_neg hc61] at h
                  refine lv_aload_n hx hb dX11_boxesOf_64 rfl (lv_at hl 0 rfl) ?_
                  refine b_get hx hb hT hK hown fl_X11_50 hw 0 0 rfl rfl (v := .ref (a (o+14))) rfl dX11_boxesOf_65 ?_
                  refine lv_iload_n hx hb dX11_boxesOf_68 rfl (lv_at hl 3 rfl) ?_
                  refine lv_aload_n hx hb dX11_boxesOf_69 rfl (lv_at hl 0 rfl) ?_
                  refine b_get hx hb hT hK hown fl_X11_50 hw 0 0 rfl rfl (v := .ref (a (o+14))) rfl dX11_boxesOf_70 ?_
                  refine lv_iload_n hx hb dX11_boxesOf_73 rfl (lv_at hl 3 rfl) ?_
                  refine lv_iconst (v := 1) hx hb dX11_boxesOf_74 (by decide) ?_
                  refine lv_isub hx hb dX11_boxesOf_75 ?_
                  obtain ⟨x40, ex40, hix40, h⟩ := g_rd_some h
                  refine b_iald hx hb hK hw 0 14 rfl (f := f34) rfl hix40 ex40 dX11_boxesOf_76 ?_
                  obtain ⟨f41, ef41, hif41, h⟩ := g_wr_some h
                  refine b_iast hx hb hK hw 0 14 rfl (f := f34) rfl hif41 ef41 rfl (wb' := [k_Model g a o pasts length printed told state backX backY x2 frees bestFree bestTurned bestFirst bestSecond v spare past kept isKept text paper left top wide high original turn f41 f35 f36 f37 freeAtX freeAtY freeW freeH begins ends tried aside]) rfl dX11_boxesOf_77 (fun H locs hw => ?_)
                  refine lv_aload_n hx hb dX11_boxesOf_78 rfl (lv_at hl 0 rfl) ?_
                  refine b_get hx hb hT hK hown fl_X11_53 hw 0 0 rfl rfl (v := .ref (a (o+15))) rfl dX11_boxesOf_79 ?_
                  refine lv_iload_n hx hb dX11_boxesOf_82 rfl (lv_at hl 3 rfl) ?_
                  refine lv_aload_n hx hb dX11_boxesOf_83 rfl (lv_at hl 0 rfl) ?_
                  refine b_get hx hb hT hK hown fl_X11_53 hw 0 0 rfl rfl (v := .ref (a (o+15))) rfl dX11_boxesOf_84 ?_
                  refine lv_iload_n hx hb dX11_boxesOf_87 rfl (lv_at hl 3 rfl) ?_
                  refine lv_iconst (v := 1) hx hb dX11_boxesOf_88 (by decide) ?_
                  refine lv_isub hx hb dX11_boxesOf_89 ?_
                  obtain ⟨x42, ex42, hix42, h⟩ := g_rd_some h
                  refine b_iald hx hb hK hw 0 15 rfl (f := f35) rfl hix42 ex42 dX11_boxesOf_90 ?_
                  obtain ⟨f43, ef43, hif43, h⟩ := g_wr_some h
                  refine b_iast hx hb hK hw 0 15 rfl (f := f35) rfl hif43 ef43 rfl (wb' := [k_Model g a o pasts length printed told state backX backY x2 frees bestFree bestTurned bestFirst bestSecond v spare past kept isKept text paper left top wide high original turn f41 f43 f36 f37 freeAtX freeAtY freeW freeH begins ends tried aside]) rfl dX11_boxesOf_91 (fun H locs hw => ?_)
                  refine lv_aload_n hx hb dX11_boxesOf_92 rfl (lv_at hl 0 rfl) ?_
                  refine b_get hx hb hT hK hown fl_X11_56 hw 0 0 rfl rfl (v := .ref (a (o+16))) rfl dX11_boxesOf_93 ?_
                  refine lv_iload_n hx hb dX11_boxesOf_96 rfl (lv_at hl 3 rfl) ?_
                  refine lv_aload_n hx hb dX11_boxesOf_97 rfl (lv_at hl 0 rfl) ?_
                  refine b_get hx hb hT hK hown fl_X11_56 hw 0 0 rfl rfl (v := .ref (a (o+16))) rfl dX11_boxesOf_98 ?_
                  refine lv_iload_n hx hb dX11_boxesOf_101 rfl (lv_at hl 3 rfl) ?_
                  refine lv_iconst (v := 1) hx hb dX11_boxesOf_102 (by decide) ?_
                  refine lv_isub hx hb dX11_boxesOf_103 ?_
                  obtain ⟨x44, ex44, hix44, h⟩ := g_rd_some h
                  refine b_iald hx hb hK hw 0 16 rfl (f := f36) rfl hix44 ex44 dX11_boxesOf_104 ?_
                  obtain ⟨f45, ef45, hif45, h⟩ := g_wr_some h
                  refine b_iast hx hb hK hw 0 16 rfl (f := f36) rfl hif45 ef45 rfl (wb' := [k_Model g a o pasts length printed told state backX backY x2 frees bestFree bestTurned bestFirst bestSecond v spare past kept isKept text paper left top wide high original turn f41 f43 f45 f37 freeAtX freeAtY freeW freeH begins ends tried aside]) rfl dX11_boxesOf_105 (fun H locs hw => ?_)
                  refine lv_aload_n hx hb dX11_boxesOf_106 rfl (lv_at hl 0 rfl) ?_
                  refine b_get hx hb hT hK hown fl_X11_59 hw 0 0 rfl rfl (v := .ref (a (o+17))) rfl dX11_boxesOf_107 ?_
                  refine lv_iload_n hx hb dX11_boxesOf_110 rfl (lv_at hl 3 rfl) ?_
                  refine lv_aload_n hx hb dX11_boxesOf_111 rfl (lv_at hl 0 rfl) ?_
                  refine b_get hx hb hT hK hown fl_X11_59 hw 0 0 rfl rfl (v := .ref (a (o+17))) rfl dX11_boxesOf_112 ?_
                  refine lv_iload_n hx hb dX11_boxesOf_115 rfl (lv_at hl 3 rfl) ?_
                  refine lv_iconst (v := 1) hx hb dX11_boxesOf_116 (by decide) ?_
                  refine lv_isub hx hb dX11_boxesOf_117 ?_
                  obtain ⟨x46, ex46, hix46, h⟩ := g_rd_some h
                  refine b_iald hx hb hK hw 0 17 rfl (f := f37) rfl hix46 ex46 dX11_boxesOf_118 ?_
                  obtain ⟨f47, ef47, hif47, h⟩ := g_wr_some h
                  refine b_iast hx hb hK hw 0 17 rfl (f := f37) rfl hif47 ef47 rfl (wb' := [k_Model g a o pasts length printed told state backX backY x2 frees bestFree bestTurned bestFirst bestSecond v spare past kept isKept text paper left top wide high original turn f41 f43 f45 f47 freeAtX freeAtY freeW freeH begins ends tried aside]) rfl dX11_boxesOf_119 (fun H locs hw => ?_)
                  obtain ⟨x48, ex48, h⟩ := g_bd_nm h
                  refine lv_iinc (v := x48) (lv' := [(3, .int x48), (0, .ref (a o)), (1, .int i1), (2, .int x1)]) hx hb dX11_boxesOf_120 hl (k := 3) rfl (by rw [ex48]; rfl) (by decide) rfl (fun ls hl => ?_)
                  refine lv_goto (tgt := 39) hx hb dX11_boxesOf_123 (by decide) ?_
                  exact ih39 x48 f41 f43 f45 f47 _ _ _ hw (lv_sub hl [1, 2, 3, 0] rfl) h
          exact hL39 g_fuel x2 f3 f4 f5 f6 _ _ _ hw (lv_sub hl [1, 2, 3, 0] rfl) h
        · rw [if_neg hc28] at h
          refine lv_goto (tgt := 212) hx hb dX11_boxesOf_31 (by decide) ?_
          exact hj212_13 x2 f3 f4 f5 f6 _ _ _ hw (lv_sub hl [0, 1, 2] rfl) h
  exact hL7 g_fuel (0 : Int32) (0 : Int32) boxX boxY boxW boxH _ _ _ hw (lv_sub hl [1, 2, 0] rfl) h
set_option maxRecDepth 100000 in
set_option maxHeartbeats 4000000 in
theorem c_X11_isHeld (l : Launch) (D : va_G) (g : Nat → ClassId) (a : Nat → Nat) (o : Nat) (pasts : Int32) (length : Int32) (printed : Int32) (told : Int32) (state : Int64) (backX : Int32) (backY : Int32) (boxes : Int32) (frees : Int32) (bestFree : Int32) (bestTurned : Int32) (bestFirst : Int32) (bestSecond : Int32) (v : (Nat → Int32)) (spare : (Nat → Int32)) (past : (Nat → Int32)) (kept : (Nat → Int32)) (isKept : (Nat → Int32)) (text : (Nat → Int32)) (paper : (Nat → Int32)) (left : (Nat → Int32)) (top : (Nat → Int32)) (wide : (Nat → Int32)) (high : (Nat → Int32)) (original : (Nat → Int32)) (turn : (Nat → Int32)) (boxX : (Nat → Int32)) (boxY : (Nat → Int32)) (boxW : (Nat → Int32)) (boxH : (Nat → Int32)) (freeAtX : (Nat → Int32)) (freeAtY : (Nat → Int32)) (freeW : (Nat → Int32)) (freeH : (Nat → Int32)) (begins : (Nat → Int32)) (ends : (Nat → Int32)) (tried : (Nat → Int32)) (aside : (Nat → Int32)) (i1 : Int32) (i2 : Int32) (i3 : Int32) (u : Int32) (h : f_X11_isHeld boxes boxX boxY boxW boxH i1 i2 i3 = some u) : b_Ct l yX11_isHeld cX11_isHeld 6 (some .boolean) 1 22 D g [.ref (a o), .int i1, .int i2, .int i3] [k_Model g a o pasts length printed told state backX backY boxes frees bestFree bestTurned bestFirst bestSecond v spare past kept isKept text paper left top wide high original turn boxX boxY boxW boxH freeAtX freeAtY freeW freeH begins ends tried aside] [k_Model g a o pasts length printed told state backX backY boxes frees bestFree bestTurned bestFirst bestSecond v spare past kept isKept text paper left top wide high original turn boxX boxY boxW boxH freeAtX freeAtY freeW freeH begins ends tried aside] (some (.int u)) := by
  refine b_start RX11 (by decide) rfl (Nat.le_of_ble_eq_true rfl) rfl ?_
  intro p e s m args below meth c A ls Q hQ hx hb hr hlk hml hown hT hK hA hw hl
  have hl : lv_has ls 6 [(0, .ref (a o)), (1, .int i1), (2, .int i2), (3, .int i3)] := hl
  unfold f_X11_isHeld at h
  refine lv_iconst (v := 0) hx hb dX11_isHeld_0 (by decide) ?_
  refine lv_istore (lv' := [(4, .int (0 : Int32)), (0, .ref (a o)), (1, .int i1), (2, .int i2), (3, .int i3)]) hx hb dX11_isHeld_1 hl (by decide) rfl (fun ls hl => ?_)
  refine lv_iconst (v := 0) hx hb dX11_isHeld_3 (by decide) ?_
  refine lv_istore (lv' := [(5, .int (0 : Int32)), (4, .int (0 : Int32)), (0, .ref (a o)), (1, .int i1), (2, .int i2), (3, .int i3)]) hx hb dX11_isHeld_4 hl (by decide) rfl (fun ls hl => ?_)
  have hL6 : ∀ (n : Nat) (x1 : Int32) (x2 : Int32) (H : Heap) (locs : List Loc) (ls : Array Slot), b_Wd D A s.heap H locs [k_Model g a o pasts length printed told state backX backY boxes frees bestFree bestTurned bestFirst bestSecond v spare past kept isKept text paper left top wide high original turn boxX boxY boxW boxH freeAtX freeAtY freeW freeH begins ends tried aside] → lv_has ls 6 [(0, .ref (a o)), (1, .int i1), (2, .int i2), (3, .int i3), (4, .int x1), (5, .int x2)] → f_X11_isHeld_L6 boxes boxX boxY boxW boxH i1 i2 i3 n x1 x2 = some u → W p l e (g_rm 1 22) s m args below meth c H locs 0 0 Q (F0 m 6 ls []) := by
    intro n
    induction n with
    | zero =>
      intro x1 x2 H locs ls hw hl h
      cases (show none = some u from h)
    | succ n ih6 =>
      intro x1 x2 H locs ls hw hl h
      rw [f_X11_isHeld_L6] at h
      refine lv_iload hx hb dX11_isHeld_6 (lv_at hl 5 rfl) ?_
      refine lv_aload_n hx hb dX11_isHeld_8 rfl (lv_at hl 0 rfl) ?_
      refine b_get hx hb hT hK hown fl_X11_185 hw 0 0 rfl rfl (v := .int boxes) rfl dX11_isHeld_9 ?_
      refine lv_icmp_ge (tgt := 94) hx hb dX11_isHeld_12 (by decide) (fun hc12 => ?_) (fun hc12 => ?_)
      · rw [if_pos hc12] at h
        refine lv_iload hx hb dX11_isHeld_94 (lv_at hl 4 rfl) ?_
        obtain ⟨z3, h⟩ := g_z_some h
        obtain rfl := Option.some.inj h
        exact b_zret hQ hx hb hr hlk z3 hw rfl dX11_isHeld_96
      · rw [if_neg hc12] at h
        refine lv_iload hx hb dX11_isHeld_15 (lv_at hl 4 rfl) ?_
        refine lv_if_ne (tgt := 94) hx hb dX11_isHeld_17 (by decide) (fun hc17 => ?_) (fun hc17 => ?_)
        · rw [if_neg hc17] at h
          refine lv_iload hx hb dX11_isHeld_94 (lv_at hl 4 rfl) ?_
          obtain ⟨z14, h⟩ := g_z_some h
          obtain rfl := Option.some.inj h
          exact b_zret hQ hx hb hr hlk z14 hw rfl dX11_isHeld_96
        · rw [if_pos hc17] at h
          refine lv_iload_n hx hb dX11_isHeld_20 rfl (lv_at hl 1 rfl) ?_
          refine lv_aload_n hx hb dX11_isHeld_21 rfl (lv_at hl 0 rfl) ?_
          refine b_get hx hb hT hK hown fl_X11_50 hw 0 0 rfl rfl (v := .ref (a (o+14))) rfl dX11_isHeld_22 ?_
          refine lv_iload hx hb dX11_isHeld_25 (lv_at hl 5 rfl) ?_
          obtain ⟨x4, ex4, hix4, h⟩ := g_rd_some h
          refine b_iald hx hb hK hw 0 14 rfl (f := boxX) rfl hix4 ex4 dX11_isHeld_27 ?_
          refine lv_aload_n hx hb dX11_isHeld_28 rfl (lv_at hl 0 rfl) ?_
          refine b_get hx hb hT hK hown fl_X11_50 hw 0 0 rfl rfl (v := .ref (a (o+14))) rfl dX11_isHeld_29 ?_
          refine lv_iload hx hb dX11_isHeld_32 (lv_at hl 5 rfl) ?_
          obtain ⟨x5, ex5, hix5, h⟩ := g_rd_some h
          refine b_iald hx hb hK hw 0 14 rfl (f := boxX) rfl hix5 ex5 dX11_isHeld_34 ?_
          refine lv_aload_n hx hb dX11_isHeld_35 rfl (lv_at hl 0 rfl) ?_
          refine b_get hx hb hT hK hown fl_X11_56 hw 0 0 rfl rfl (v := .ref (a (o+16))) rfl dX11_isHeld_36 ?_
          refine lv_iload hx hb dX11_isHeld_39 (lv_at hl 5 rfl) ?_
          obtain ⟨x6, ex6, hix6, h⟩ := g_rd_some h
          refine b_iald hx hb hK hw 0 16 rfl (f := boxW) rfl hix6 ex6 dX11_isHeld_41 ?_
          refine lv_iadd hx hb dX11_isHeld_42 ?_
          refine lv_iconst (v := 1) hx hb dX11_isHeld_43 (by decide) ?_
          refine lv_isub hx hb dX11_isHeld_44 ?_
          refine b_callS hx hb hml hown hT hK hA hw mk_X11_86 (c_X11_in l D g i1 x4 ((x5 + x6) - (1 : Int32))) [] [0] rfl (by decide) rfl hl.1 [] rfl (Nat.le_of_ble_eq_true rfl) ⟨Nat.le_of_ble_eq_true rfl, Nat.le_of_ble_eq_true rfl⟩ ⟨Nat.zero_le _, Nat.zero_le _⟩ dX11_isHeld_45 (wb' := [k_Model g a o pasts length printed told state backX backY boxes frees bestFree bestTurned bestFirst bestSecond v spare past kept isKept text paper left top wide high original turn boxX boxY boxW boxH freeAtX freeAtY freeW freeH begins ends tried aside]) rfl (b_e1 rfl b_e0) 1 rfl (by decide) (st2 := [.int (f_X11_in i1 x4 ((x5 + x6) - (1 : Int32)))]) rfl (fun H locs hw => ?_)
          obtain ⟨j86_7, ej86_7, h⟩ := g_jn_nm h
          have hj86_7 : ∀ (x7 : Int32) (H : Heap) (locs : List Loc) (ls : Array Slot), b_Wd D A s.heap H locs [k_Model g a o pasts length printed told state backX backY boxes frees bestFree bestTurned bestFirst bestSecond v spare past kept isKept text paper left top wide high original turn boxX boxY boxW boxH freeAtX freeAtY freeW freeH begins ends tried aside] → lv_has ls 6 [(0, .ref (a o)), (1, .int i1), (2, .int i2), (3, .int i3), (5, .int x2)] → j86_7 x7 = some u → W p l e (g_rm 1 22) s m args below meth c H locs 0 0 Q (F0 m 86 ls [.int x7]) := by
            intro x7 H locs ls hw hl h
            subst ej86_7
            dsimp only at h
            refine lv_istore (lv' := [(4, .int x7), (0, .ref (a o)), (1, .int i1), (2, .int i2), (3, .int i3), (5, .int x2)]) hx hb dX11_isHeld_86 hl (by decide) rfl (fun ls hl => ?_)
            obtain ⟨x9, ex9, h⟩ := g_bd_nm h
            refine lv_iinc (v := x9) (lv' := [(5, .int x9), (4, .int x7), (0, .ref (a o)), (1, .int i1), (2, .int i2), (3, .int i3)]) hx hb dX11_isHeld_88 hl (k := 5) rfl (by rw [ex9]; rfl) (by decide) rfl (fun ls hl => ?_)
            refine lv_goto (tgt := 6) hx hb dX11_isHeld_91 (by decide) ?_
            exact ih6 x7 x9 _ _ _ hw (lv_sub hl [2, 3, 4, 5, 1, 0] rfl) h
          obtain ⟨j85_9, ej85_9, h⟩ := g_jn_nm h
          have hj85_9 : ∀ (H : Heap) (locs : List Loc) (ls : Array Slot), b_Wd D A s.heap H locs [k_Model g a o pasts length printed told state backX backY boxes frees bestFree bestTurned bestFirst bestSecond v spare past kept isKept text paper left top wide high original turn boxX boxY boxW boxH freeAtX freeAtY freeW freeH begins ends tried aside] → lv_has ls 6 [(0, .ref (a o)), (1, .int i1), (2, .int i2), (3, .int i3), (5, .int x2)] → j85_9 = some u → W p l e (g_rm 1 22) s m args below meth c H locs 0 0 Q (F0 m 85 ls []) := by
            intro  H locs ls hw hl h
            subst ej85_9
            refine lv_iconst (v := 0) hx hb dX11_isHeld_85 (by decide) ?_
            exact hj86_7 (0 : Int32) _ _ _ hw (lv_sub hl [0, 1, 2, 3, 4] rfl) h
          refine lv_if_eq (tgt := 85) hx hb dX11_isHeld_48 (by decide) (fun hc48 => ?_) (fun hc48 => ?_)
          · rw [if_pos hc48] at h
            exact hj85_9  _ _ _ hw (lv_sub hl [0, 1, 2, 3, 5] rfl) h
          · rw [if_neg hc48] at h
            refine lv_aload_n hx hb dX11_isHeld_51 rfl (lv_at hl 0 rfl) ?_
            refine b_get hx hb hT hK hown fl_X11_53 hw 0 0 rfl rfl (v := .ref (a (o+15))) rfl dX11_isHeld_52 ?_
            refine lv_iload hx hb dX11_isHeld_55 (lv_at hl 5 rfl) ?_
            obtain ⟨x11, ex11, hix11, h⟩ := g_rd_some h
            refine b_iald hx hb hK hw 0 15 rfl (f := boxY) rfl hix11 ex11 dX11_isHeld_57 ?_
            refine lv_iload_n hx hb dX11_isHeld_58 rfl (lv_at hl 3 rfl) ?_
            refine lv_icmp_ge (tgt := 85) hx hb dX11_isHeld_59 (by decide) (fun hc59 => ?_) (fun hc59 => ?_)
            · rw [if_pos hc59] at h
              exact hj85_9  _ _ _ hw (lv_sub hl [0, 1, 2, 3, 5] rfl) h
            · rw [if_neg hc59] at h
              refine lv_aload_n hx hb dX11_isHeld_62 rfl (lv_at hl 0 rfl) ?_
              refine b_get hx hb hT hK hown fl_X11_53 hw 0 0 rfl rfl (v := .ref (a (o+15))) rfl dX11_isHeld_63 ?_
              refine lv_iload hx hb dX11_isHeld_66 (lv_at hl 5 rfl) ?_
              obtain ⟨x12, ex12, hix12, h⟩ := g_rd_some h
              refine b_iald hx hb hK hw 0 15 rfl (f := boxY) rfl hix12 ex12 dX11_isHeld_68 ?_
              refine lv_aload_n hx hb dX11_isHeld_69 rfl (lv_at hl 0 rfl) ?_
              refine b_get hx hb hT hK hown fl_X11_59 hw 0 0 rfl rfl (v := .ref (a (o+17))) rfl dX11_isHeld_70 ?_
              refine lv_iload hx hb dX11_isHeld_73 (lv_at hl 5 rfl) ?_
              obtain ⟨x13, ex13, hix13, h⟩ := g_rd_some h
              refine b_iald hx hb hK hw 0 17 rfl (f := boxH) rfl hix13 ex13 dX11_isHeld_75 ?_
              refine lv_iadd hx hb dX11_isHeld_76 ?_
              refine lv_iload_n hx hb dX11_isHeld_77 rfl (lv_at hl 2 rfl) ?_
              refine lv_icmp_le (tgt := 85) hx hb dX11_isHeld_78 (by decide) (fun hc78 => ?_) (fun hc78 => ?_)
              · rw [if_pos hc78] at h
                exact hj85_9  _ _ _ hw (lv_sub hl [0, 1, 2, 3, 5] rfl) h
              · rw [if_neg hc78] at h
                refine lv_iconst (v := 1) hx hb dX11_isHeld_81 (by decide) ?_
                refine lv_goto (tgt := 86) hx hb dX11_isHeld_82 (by decide) ?_
                exact hj86_7 (1 : Int32) _ _ _ hw (lv_sub hl [0, 1, 2, 3, 5] rfl) h
  exact hL6 g_fuel (0 : Int32) (0 : Int32) _ _ _ hw (lv_sub hl [2, 3, 4, 5, 1, 0] rfl) h
set_option maxRecDepth 100000 in
set_option maxHeartbeats 4000000 in
theorem c_X11_isBehind (l : Launch) (D : va_G) (g : Nat → ClassId) (a : Nat → Nat) (o : Nat) (pasts : Int32) (length : Int32) (printed : Int32) (told : Int32) (state : Int64) (backX : Int32) (backY : Int32) (boxes : Int32) (frees : Int32) (bestFree : Int32) (bestTurned : Int32) (bestFirst : Int32) (bestSecond : Int32) (v : (Nat → Int32)) (spare : (Nat → Int32)) (past : (Nat → Int32)) (kept : (Nat → Int32)) (isKept : (Nat → Int32)) (text : (Nat → Int32)) (paper : (Nat → Int32)) (left : (Nat → Int32)) (top : (Nat → Int32)) (wide : (Nat → Int32)) (high : (Nat → Int32)) (original : (Nat → Int32)) (turn : (Nat → Int32)) (boxX : (Nat → Int32)) (boxY : (Nat → Int32)) (boxW : (Nat → Int32)) (boxH : (Nat → Int32)) (freeAtX : (Nat → Int32)) (freeAtY : (Nat → Int32)) (freeW : (Nat → Int32)) (freeH : (Nat → Int32)) (begins : (Nat → Int32)) (ends : (Nat → Int32)) (tried : (Nat → Int32)) (aside : (Nat → Int32)) (i1 : Int32) (i2 : Int32) (i3 : Int32) (i4 : Int32) (u : Int32) (h : f_X11_isBehind freeAtX freeAtY freeW i1 i2 i3 i4 = some u) : b_Ct l yX11_isBehind cX11_isBehind 5 (some .boolean) 0 0 D g [.ref (a o), .int i1, .int i2, .int i3, .int i4] [k_Model g a o pasts length printed told state backX backY boxes frees bestFree bestTurned bestFirst bestSecond v spare past kept isKept text paper left top wide high original turn boxX boxY boxW boxH freeAtX freeAtY freeW freeH begins ends tried aside] [k_Model g a o pasts length printed told state backX backY boxes frees bestFree bestTurned bestFirst bestSecond v spare past kept isKept text paper left top wide high original turn boxX boxY boxW boxH freeAtX freeAtY freeW freeH begins ends tried aside] (some (.int u)) := by
  refine b_start RX11 (by decide) rfl (Nat.le_of_ble_eq_true rfl) rfl ?_
  intro p e s m args below meth c A ls Q hQ hx hb hr hlk hml hown hT hK hA hw hl
  have hl : lv_has ls 5 [(0, .ref (a o)), (1, .int i1), (2, .int i2), (3, .int i3), (4, .int i4)] := hl
  unfold f_X11_isBehind at h
  refine lv_aload_n hx hb dX11_isBehind_0 rfl (lv_at hl 0 rfl) ?_
  refine b_get hx hb hT hK hown fl_X11_65 hw 0 0 rfl rfl (v := .ref (a (o+19))) rfl dX11_isBehind_1 ?_
  refine lv_iload_n hx hb dX11_isBehind_4 rfl (lv_at hl 1 rfl) ?_
  obtain ⟨x1, ex1, hix1, h⟩ := g_rd_some h
  refine b_iald hx hb hK hw 0 19 rfl (f := freeAtY) rfl hix1 ex1 dX11_isBehind_5 ?_
  refine lv_iload_n hx hb dX11_isBehind_6 rfl (lv_at hl 3 rfl) ?_
  refine lv_icmp_gt (tgt := 51) hx hb dX11_isBehind_7 (by decide) (fun hc7 => ?_) (fun hc7 => ?_)
  · rw [if_pos hc7] at h
    refine lv_iconst (v := 1) hx hb dX11_isBehind_51 (by decide) ?_
    refine lv_goto (tgt := 56) hx hb dX11_isBehind_52 (by decide) ?_
    obtain rfl := Option.some.inj h
    exact b_zret hQ hx hb hr hlk (Or.inr rfl) hw rfl dX11_isBehind_56
  · rw [if_neg hc7] at h
    refine lv_aload_n hx hb dX11_isBehind_10 rfl (lv_at hl 0 rfl) ?_
    refine b_get hx hb hT hK hown fl_X11_65 hw 0 0 rfl rfl (v := .ref (a (o+19))) rfl dX11_isBehind_11 ?_
    refine lv_iload_n hx hb dX11_isBehind_14 rfl (lv_at hl 1 rfl) ?_
    obtain ⟨x2, ex2, hix2, h⟩ := g_rd_some h
    refine b_iald hx hb hK hw 0 19 rfl (f := freeAtY) rfl hix2 ex2 dX11_isBehind_15 ?_
    refine lv_iload_n hx hb dX11_isBehind_16 rfl (lv_at hl 3 rfl) ?_
    refine lv_icmp_ne (tgt := 55) hx hb dX11_isBehind_17 (by decide) (fun hc17 => ?_) (fun hc17 => ?_)
    · rw [if_neg hc17] at h
      refine lv_iconst (v := 0) hx hb dX11_isBehind_55 (by decide) ?_
      obtain rfl := Option.some.inj h
      exact b_zret hQ hx hb hr hlk (Or.inl rfl) hw rfl dX11_isBehind_56
    · rw [if_pos hc17] at h
      refine lv_aload_n hx hb dX11_isBehind_20 rfl (lv_at hl 0 rfl) ?_
      refine b_get hx hb hT hK hown fl_X11_62 hw 0 0 rfl rfl (v := .ref (a (o+18))) rfl dX11_isBehind_21 ?_
      refine lv_iload_n hx hb dX11_isBehind_24 rfl (lv_at hl 1 rfl) ?_
      obtain ⟨x3, ex3, hix3, h⟩ := g_rd_some h
      refine b_iald hx hb hK hw 0 18 rfl (f := freeAtX) rfl hix3 ex3 dX11_isBehind_25 ?_
      refine lv_iload_n hx hb dX11_isBehind_26 rfl (lv_at hl 2 rfl) ?_
      refine lv_icmp_gt (tgt := 51) hx hb dX11_isBehind_27 (by decide) (fun hc27 => ?_) (fun hc27 => ?_)
      · rw [if_pos hc27] at h
        refine lv_iconst (v := 1) hx hb dX11_isBehind_51 (by decide) ?_
        refine lv_goto (tgt := 56) hx hb dX11_isBehind_52 (by decide) ?_
        obtain rfl := Option.some.inj h
        exact b_zret hQ hx hb hr hlk (Or.inr rfl) hw rfl dX11_isBehind_56
      · rw [if_neg hc27] at h
        refine lv_aload_n hx hb dX11_isBehind_30 rfl (lv_at hl 0 rfl) ?_
        refine b_get hx hb hT hK hown fl_X11_62 hw 0 0 rfl rfl (v := .ref (a (o+18))) rfl dX11_isBehind_31 ?_
        refine lv_iload_n hx hb dX11_isBehind_34 rfl (lv_at hl 1 rfl) ?_
        obtain ⟨x4, ex4, hix4, h⟩ := g_rd_some h
        refine b_iald hx hb hK hw 0 18 rfl (f := freeAtX) rfl hix4 ex4 dX11_isBehind_35 ?_
        refine lv_iload_n hx hb dX11_isBehind_36 rfl (lv_at hl 2 rfl) ?_
        refine lv_icmp_ne (tgt := 55) hx hb dX11_isBehind_37 (by decide) (fun hc37 => ?_) (fun hc37 => ?_)
        · rw [if_neg hc37] at h
          refine lv_iconst (v := 0) hx hb dX11_isBehind_55 (by decide) ?_
          obtain rfl := Option.some.inj h
          exact b_zret hQ hx hb hr hlk (Or.inl rfl) hw rfl dX11_isBehind_56
        · rw [if_pos hc37] at h
          refine lv_aload_n hx hb dX11_isBehind_40 rfl (lv_at hl 0 rfl) ?_
          refine b_get hx hb hT hK hown fl_X11_68 hw 0 0 rfl rfl (v := .ref (a (o+20))) rfl dX11_isBehind_41 ?_
          refine lv_iload_n hx hb dX11_isBehind_44 rfl (lv_at hl 1 rfl) ?_
          obtain ⟨x5, ex5, hix5, h⟩ := g_rd_some h
          refine b_iald hx hb hK hw 0 20 rfl (f := freeW) rfl hix5 ex5 dX11_isBehind_45 ?_
          refine lv_iload hx hb dX11_isBehind_46 (lv_at hl 4 rfl) ?_
          refine lv_icmp_le (tgt := 55) hx hb dX11_isBehind_48 (by decide) (fun hc48 => ?_) (fun hc48 => ?_)
          · rw [if_pos hc48] at h
            refine lv_iconst (v := 0) hx hb dX11_isBehind_55 (by decide) ?_
            obtain rfl := Option.some.inj h
            exact b_zret hQ hx hb hr hlk (Or.inl rfl) hw rfl dX11_isBehind_56
          · rw [if_neg hc48] at h
            refine lv_iconst (v := 1) hx hb dX11_isBehind_51 (by decide) ?_
            refine lv_goto (tgt := 56) hx hb dX11_isBehind_52 (by decide) ?_
            obtain rfl := Option.some.inj h
            exact b_zret hQ hx hb hr hlk (Or.inr rfl) hw rfl dX11_isBehind_56
