set_option maxRecDepth 100000 in
set_option maxHeartbeats 4000000 in
theorem c_X11_trims (l : Launch) (D : va_G) (g : Nat → ClassId) (a : Nat → Nat) (o : Nat) (pasts : Int32) (length : Int32) (printed : Int32) (told : Int32) (state : Int64) (backX : Int32) (backY : Int32) (boxes : Int32) (frees : Int32) (bestFree : Int32) (bestTurned : Int32) (bestFirst : Int32) (bestSecond : Int32) (v : (Nat → Int32)) (spare : (Nat → Int32)) (past : (Nat → Int32)) (kept : (Nat → Int32)) (isKept : (Nat → Int32)) (text : (Nat → Int32)) (paper : (Nat → Int32)) (left : (Nat → Int32)) (top : (Nat → Int32)) (wide : (Nat → Int32)) (high : (Nat → Int32)) (original : (Nat → Int32)) (turn : (Nat → Int32)) (boxX : (Nat → Int32)) (boxY : (Nat → Int32)) (boxW : (Nat → Int32)) (boxH : (Nat → Int32)) (freeAtX : (Nat → Int32)) (freeAtY : (Nat → Int32)) (freeW : (Nat → Int32)) (freeH : (Nat → Int32)) (begins : (Nat → Int32)) (ends : (Nat → Int32)) (tried : (Nat → Int32)) (aside : (Nat → Int32)) (i1 : Int32) (u : (Nat → Int32) × (Nat → Int32) × (Nat → Int32) × (Nat → Int32)) (h : f_X11_trims v left top wide high i1 = some u) : b_Ct l yX11_trims cX11_trims 10 none 1 22 D g [.ref (a o), .int i1] [k_Model g a o pasts length printed told state backX backY boxes frees bestFree bestTurned bestFirst bestSecond v spare past kept isKept text paper left top wide high original turn boxX boxY boxW boxH freeAtX freeAtY freeW freeH begins ends tried aside] [k_Model g a o pasts length printed told state backX backY boxes frees bestFree bestTurned bestFirst bestSecond v spare past kept isKept text paper u.1 u.2.1 u.2.2.1 u.2.2.2 original turn boxX boxY boxW boxH freeAtX freeAtY freeW freeH begins ends tried aside] none := by
  refine b_start RX11 (by decide) rfl (Nat.le_of_ble_eq_true rfl) rfl ?_
  intro p e s m args below meth c A ls Q hQ hx hb hr hlk hml hown hT hK hA hw hl
  have hl : lv_has ls 10 [(0, .ref (a o)), (1, .int i1)] := hl
  unfold f_X11_trims at h
  refine lv_aload_n hx hb dX11_trims_0 rfl (lv_at hl 0 rfl) ?_
  refine b_get hx hb hT hK hown fl_X11_7 hw 0 0 rfl rfl (v := .ref (a (o+1))) rfl dX11_trims_1 ?_
  refine lv_iload_n hx hb dX11_trims_4 rfl (lv_at hl 1 rfl) ?_
  refine lv_iconst (v := 0) hx hb dX11_trims_5 (by decide) ?_
  refine b_callS hx hb hml hown hT hK hA hw mk_X11_94 (c_X11_at l D g i1 (0 : Int32)) [] [0] rfl (by decide) rfl hl.1 [.ref (a (o+1))] rfl (Nat.le_of_ble_eq_true rfl) ⟨Nat.le_of_ble_eq_true rfl, Nat.le_of_ble_eq_true rfl⟩ ⟨Nat.zero_le _, Nat.zero_le _⟩ dX11_trims_6 (wb' := [k_Model g a o pasts length printed told state backX backY boxes frees bestFree bestTurned bestFirst bestSecond v spare past kept isKept text paper left top wide high original turn boxX boxY boxW boxH freeAtX freeAtY freeW freeH begins ends tried aside]) rfl (b_e1 rfl b_e0) 1 rfl (by decide) (st2 := [.int (f_X11_at i1 (0 : Int32)), .ref (a (o+1))]) rfl (fun H locs hw => ?_)
  obtain ⟨x1, ex1, hix1, h⟩ := g_rd_some h
  refine b_iald hx hb hK hw 0 1 rfl (f := v) rfl hix1 ex1 dX11_trims_9 ?_
  refine lv_istore_n (lv' := [(2, .int x1), (0, .ref (a o)), (1, .int i1)]) hx hb dX11_trims_10 rfl hl (by decide) rfl (fun ls hl => ?_)
  refine lv_aload_n hx hb dX11_trims_11 rfl (lv_at hl 1 rfl) ?_
  refine b_get hx hb hT hK hown fl_X11_7 hw 0 0 rfl rfl (v := .ref (a (o+1))) rfl dX11_trims_12 ?_
  refine lv_iload_n hx hb dX11_trims_15 rfl (lv_at hl 2 rfl) ?_
  refine lv_iconst (v := 1) hx hb dX11_trims_16 (by decide) ?_
  refine b_callS hx hb hml hown hT hK hA hw mk_X11_94 (c_X11_at l D g i1 (1 : Int32)) [] [0] rfl (by decide) rfl hl.1 [.ref (a (o+1))] rfl (Nat.le_of_ble_eq_true rfl) ⟨Nat.le_of_ble_eq_true rfl, Nat.le_of_ble_eq_true rfl⟩ ⟨Nat.zero_le _, Nat.zero_le _⟩ dX11_trims_17 (wb' := [k_Model g a o pasts length printed told state backX backY boxes frees bestFree bestTurned bestFirst bestSecond v spare past kept isKept text paper left top wide high original turn boxX boxY boxW boxH freeAtX freeAtY freeW freeH begins ends tried aside]) rfl (b_e1 rfl b_e0) 1 rfl (by decide) (st2 := [.int (f_X11_at i1 (1 : Int32)), .ref (a (o+1))]) rfl (fun H locs hw => ?_)
  obtain ⟨x2, ex2, hix2, h⟩ := g_rd_some h
  refine b_iald hx hb hK hw 0 1 rfl (f := v) rfl hix2 ex2 dX11_trims_20 ?_
  refine lv_istore_n (lv' := [(3, .int x2), (2, .int x1), (0, .ref (a o)), (1, .int i1)]) hx hb dX11_trims_21 rfl hl (by decide) rfl (fun ls hl => ?_)
  refine lv_iload_n hx hb dX11_trims_22 rfl (lv_at hl 1 rfl) ?_
  refine lv_istore (lv' := [(4, .int x1), (3, .int x2), (2, .int x1), (0, .ref (a o)), (1, .int i1)]) hx hb dX11_trims_23 hl (by decide) rfl (fun ls hl => ?_)
  refine lv_iload_n hx hb dX11_trims_25 rfl (lv_at hl 1 rfl) ?_
  refine lv_istore (lv' := [(5, .int x2), (4, .int x1), (3, .int x2), (2, .int x1), (0, .ref (a o)), (1, .int i1)]) hx hb dX11_trims_26 hl (by decide) rfl (fun ls hl => ?_)
  refine lv_iconst (v := -1) hx hb dX11_trims_28 (by decide) ?_
  refine lv_istore (lv' := [(6, .int (-1 : Int32)), (5, .int x2), (4, .int x1), (3, .int x2), (2, .int x1), (0, .ref (a o)), (1, .int i1)]) hx hb dX11_trims_29 hl (by decide) rfl (fun ls hl => ?_)
  refine lv_iconst (v := -1) hx hb dX11_trims_31 (by decide) ?_
  refine lv_istore (lv' := [(7, .int (-1 : Int32)), (6, .int (-1 : Int32)), (5, .int x2), (4, .int x1), (3, .int x2), (2, .int x1), (0, .ref (a o)), (1, .int i1)]) hx hb dX11_trims_32 hl (by decide) rfl (fun ls hl => ?_)
  refine lv_iconst (v := 0) hx hb dX11_trims_34 (by decide) ?_
  refine lv_istore (lv' := [(8, .int (0 : Int32)), (7, .int (-1 : Int32)), (6, .int (-1 : Int32)), (5, .int x2), (4, .int x1), (3, .int x2), (2, .int x1), (0, .ref (a o)), (1, .int i1)]) hx hb dX11_trims_35 hl (by decide) rfl (fun ls hl => ?_)
  obtain ⟨k154_6, ek154_6, h⟩ := g_jn_nm h
  have hk154_6 : ∀ (x3 : Int32) (x4 : Int32) (x5 : Int32) (x6 : Int32) (H : Heap) (locs : List Loc) (ls : Array Slot), b_Wd D A s.heap H locs [k_Model g a o pasts length printed told state backX backY boxes frees bestFree bestTurned bestFirst bestSecond v spare past kept isKept text paper left top wide high original turn boxX boxY boxW boxH freeAtX freeAtY freeW freeH begins ends tried aside] → lv_has ls 10 [(0, .ref (a o)), (1, .int i1), (4, .int x3), (5, .int x4), (6, .int x5), (7, .int x6)] → k154_6 x3 x4 x5 x6 = some u → W p l e (g_rm 1 22) s m args below meth c H locs 0 0 Q (F0 m 154 ls []) := by
    intro x3 x4 x5 x6 H locs ls hw hl h
    subst ek154_6
    dsimp only at h
    refine lv_aload_n hx hb dX11_trims_154 rfl (lv_at hl 0 rfl) ?_
    refine b_get hx hb hT hK hown fl_X11_32 hw 0 0 rfl rfl (v := .ref (a (o+8))) rfl dX11_trims_155 ?_
    refine lv_iload_n hx hb dX11_trims_158 rfl (lv_at hl 1 rfl) ?_
    refine lv_iload hx hb dX11_trims_159 (lv_at hl 2 rfl) ?_
    obtain ⟨f8, ef8, hif8, h⟩ := g_wr_some h
    refine b_iast hx hb hK hw 0 8 rfl (f := left) rfl hif8 ef8 rfl (wb' := [k_Model g a o pasts length printed told state backX backY boxes frees bestFree bestTurned bestFirst bestSecond v spare past kept isKept text paper f8 top wide high original turn boxX boxY boxW boxH freeAtX freeAtY freeW freeH begins ends tried aside]) rfl dX11_trims_161 (fun H locs hw => ?_)
    refine lv_aload_n hx hb dX11_trims_162 rfl (lv_at hl 0 rfl) ?_
    refine b_get hx hb hT hK hown fl_X11_35 hw 0 0 rfl rfl (v := .ref (a (o+9))) rfl dX11_trims_163 ?_
    refine lv_iload_n hx hb dX11_trims_166 rfl (lv_at hl 1 rfl) ?_
    refine lv_iload hx hb dX11_trims_167 (lv_at hl 3 rfl) ?_
    obtain ⟨f9, ef9, hif9, h⟩ := g_wr_some h
    refine b_iast hx hb hK hw 0 9 rfl (f := top) rfl hif9 ef9 rfl (wb' := [k_Model g a o pasts length printed told state backX backY boxes frees bestFree bestTurned bestFirst bestSecond v spare past kept isKept text paper f8 f9 wide high original turn boxX boxY boxW boxH freeAtX freeAtY freeW freeH begins ends tried aside]) rfl dX11_trims_169 (fun H locs hw => ?_)
    refine lv_aload_n hx hb dX11_trims_170 rfl (lv_at hl 0 rfl) ?_
    refine b_get hx hb hT hK hown fl_X11_38 hw 0 0 rfl rfl (v := .ref (a (o+10))) rfl dX11_trims_171 ?_
    refine lv_iload_n hx hb dX11_trims_174 rfl (lv_at hl 1 rfl) ?_
    refine lv_iload hx hb dX11_trims_175 (lv_at hl 4 rfl) ?_
    obtain ⟨j191_10, ej191_10, h⟩ := g_bd_k h
    have hj191_10 : ∀ (x10 : Int32) (H : Heap) (locs : List Loc) (ls : Array Slot), b_Wd D A s.heap H locs [k_Model g a o pasts length printed told state backX backY boxes frees bestFree bestTurned bestFirst bestSecond v spare past kept isKept text paper f8 f9 wide high original turn boxX boxY boxW boxH freeAtX freeAtY freeW freeH begins ends tried aside] → lv_has ls 10 [(0, .ref (a o)), (1, .int i1), (5, .int x4), (6, .int x5), (7, .int x6)] → j191_10 x10 = some u → W p l e (g_rm 1 22) s m args below meth c H locs 0 0 Q (F0 m 191 ls [.int x10, .int i1, .ref (a (o+10))]) := by
      intro x10 H locs ls hw hl h
      subst ej191_10
      dsimp only at h
      obtain ⟨f11, ef11, hif11, h⟩ := g_wr_some h
      refine b_iast hx hb hK hw 0 10 rfl (f := wide) rfl hif11 ef11 rfl (wb' := [k_Model g a o pasts length printed told state backX backY boxes frees bestFree bestTurned bestFirst bestSecond v spare past kept isKept text paper f8 f9 f11 high original turn boxX boxY boxW boxH freeAtX freeAtY freeW freeH begins ends tried aside]) rfl dX11_trims_191 (fun H locs hw => ?_)
      refine lv_aload_n hx hb dX11_trims_192 rfl (lv_at hl 0 rfl) ?_
      refine b_get hx hb hT hK hown fl_X11_41 hw 0 0 rfl rfl (v := .ref (a (o+11))) rfl dX11_trims_193 ?_
      refine lv_iload_n hx hb dX11_trims_196 rfl (lv_at hl 1 rfl) ?_
      refine lv_iload hx hb dX11_trims_197 (lv_at hl 3 rfl) ?_
      obtain ⟨j213_12, ej213_12, h⟩ := g_bd_k h
      have hj213_12 : ∀ (x12 : Int32) (H : Heap) (locs : List Loc) (ls : Array Slot), b_Wd D A s.heap H locs [k_Model g a o pasts length printed told state backX backY boxes frees bestFree bestTurned bestFirst bestSecond v spare past kept isKept text paper f8 f9 f11 high original turn boxX boxY boxW boxH freeAtX freeAtY freeW freeH begins ends tried aside] → lv_has ls 10 [] → j213_12 x12 = some u → W p l e (g_rm 1 22) s m args below meth c H locs 0 0 Q (F0 m 213 ls [.int x12, .int i1, .ref (a (o+11))]) := by
        intro x12 H locs ls hw hl h
        subst ej213_12
        dsimp only at h
        obtain ⟨f13, ef13, hif13, h⟩ := g_wr_some h
        refine b_iast hx hb hK hw 0 11 rfl (f := high) rfl hif13 ef13 rfl (wb' := [k_Model g a o pasts length printed told state backX backY boxes frees bestFree bestTurned bestFirst bestSecond v spare past kept isKept text paper f8 f9 f11 f13 original turn boxX boxY boxW boxH freeAtX freeAtY freeW freeH begins ends tried aside]) rfl dX11_trims_213 (fun H locs hw => ?_)
        obtain rfl := Option.some.inj h
        exact b_vret hQ hx hb hr hlk hw rfl dX11_trims_214
      refine lv_if_ge (tgt := 206) hx hb dX11_trims_199 (by decide) (fun hc199 => ?_) (fun hc199 => ?_)
      · rw [if_pos hc199] at h
        refine lv_iload hx hb dX11_trims_206 (lv_at hl 4 rfl) ?_
        refine lv_iload hx hb dX11_trims_208 (lv_at hl 2 rfl) ?_
        refine lv_isub hx hb dX11_trims_210 ?_
        refine lv_iconst (v := 1) hx hb dX11_trims_211 (by decide) ?_
        refine lv_iadd hx hb dX11_trims_212 ?_
        exact hj213_12 ((x6 - x4) + (1 : Int32)) _ _ _ hw (lv_sub hl [] rfl) h
      · rw [if_neg hc199] at h
        refine lv_iconst (v := 0) hx hb dX11_trims_202 (by decide) ?_
        refine lv_goto (tgt := 213) hx hb dX11_trims_203 (by decide) ?_
        exact hj213_12 (0 : Int32) _ _ _ hw (lv_sub hl [] rfl) h
    refine lv_if_ge (tgt := 184) hx hb dX11_trims_177 (by decide) (fun hc177 => ?_) (fun hc177 => ?_)
    · rw [if_pos hc177] at h
      refine lv_iload hx hb dX11_trims_184 (lv_at hl 4 rfl) ?_
      refine lv_iload hx hb dX11_trims_186 (lv_at hl 2 rfl) ?_
      refine lv_isub hx hb dX11_trims_188 ?_
      refine lv_iconst (v := 1) hx hb dX11_trims_189 (by decide) ?_
      refine lv_iadd hx hb dX11_trims_190 ?_
      exact hj191_10 ((x5 - x3) + (1 : Int32)) _ _ _ hw (lv_sub hl [0, 1, 3, 4, 5] rfl) h
    · rw [if_neg hc177] at h
      refine lv_iconst (v := 0) hx hb dX11_trims_180 (by decide) ?_
      refine lv_goto (tgt := 191) hx hb dX11_trims_181 (by decide) ?_
      exact hj191_10 (0 : Int32) _ _ _ hw (lv_sub hl [0, 1, 3, 4, 5] rfl) h
  have hL37 : ∀ (n : Nat) (x14 : Int32) (x15 : Int32) (x16 : Int32) (x17 : Int32) (x18 : Int32) (H : Heap) (locs : List Loc) (ls : Array Slot), b_Wd D A s.heap H locs [k_Model g a o pasts length printed told state backX backY boxes frees bestFree bestTurned bestFirst bestSecond v spare past kept isKept text paper left top wide high original turn boxX boxY boxW boxH freeAtX freeAtY freeW freeH begins ends tried aside] → lv_has ls 10 [(0, .ref (a o)), (1, .int i1), (2, .int x1), (3, .int x2), (4, .int x14), (5, .int x15), (6, .int x16), (7, .int x17), (8, .int x18)] → f_X11_trims_L37 v i1 x1 x2 k154_6 n x14 x15 x16 x17 x18 = some u → W p l e (g_rm 1 22) s m args below meth c H locs 0 0 Q (F0 m 37 ls []) := by
    intro n
    induction n with
    | zero =>
      intro x14 x15 x16 x17 x18 H locs ls hw hl h
      cases (show none = some u from h)
    | succ n ih37 =>
      intro x14 x15 x16 x17 x18 H locs ls hw hl h
      rw [f_X11_trims_L37] at h
      refine lv_iload hx hb dX11_trims_37 (lv_at hl 8 rfl) ?_
      refine lv_iload_n hx hb dX11_trims_39 rfl (lv_at hl 3 rfl) ?_
      refine lv_icmp_ge (tgt := 154) hx hb dX11_trims_40 (by decide) (fun hc40 => ?_) (fun hc40 => ?_)
      · rw [if_pos hc40] at h
        exact hk154_6 x14 x15 x16 x17 _ _ _ hw (lv_sub hl [0, 1, 4, 5, 6, 7] rfl) h
      · rw [if_neg hc40] at h
        refine lv_iconst (v := 0) hx hb dX11_trims_43 (by decide) ?_
        refine lv_istore (lv' := [(9, .int (0 : Int32)), (0, .ref (a o)), (1, .int i1), (2, .int x1), (3, .int x2), (4, .int x14), (5, .int x15), (6, .int x16), (7, .int x17), (8, .int x18)]) hx hb dX11_trims_44 hl (by decide) rfl (fun ls hl => ?_)
        obtain ⟨k148_22, ek148_22, h⟩ := g_jn_nm h
        have hk148_22 : ∀ (x19 : Int32) (x20 : Int32) (x21 : Int32) (x22 : Int32) (H : Heap) (locs : List Loc) (ls : Array Slot), b_Wd D A s.heap H locs [k_Model g a o pasts length printed told state backX backY boxes frees bestFree bestTurned bestFirst bestSecond v spare past kept isKept text paper left top wide high original turn boxX boxY boxW boxH freeAtX freeAtY freeW freeH begins ends tried aside] → lv_has ls 10 [(0, .ref (a o)), (1, .int i1), (2, .int x1), (3, .int x2), (4, .int x19), (5, .int x20), (6, .int x21), (7, .int x22), (8, .int x18)] → k148_22 x19 x20 x21 x22 = some u → W p l e (g_rm 1 22) s m args below meth c H locs 0 0 Q (F0 m 148 ls []) := by
          intro x19 x20 x21 x22 H locs ls hw hl h
          subst ek148_22
          dsimp only at h
          obtain ⟨x24, ex24, h⟩ := g_bd_nm h
          refine lv_iinc (v := x24) (lv' := [(8, .int x24), (0, .ref (a o)), (1, .int i1), (2, .int x1), (3, .int x2), (4, .int x19), (5, .int x20), (6, .int x21), (7, .int x22)]) hx hb dX11_trims_148 hl (k := 8) rfl (by rw [ex24]; rfl) (by decide) rfl (fun ls hl => ?_)
          refine lv_goto (tgt := 37) hx hb dX11_trims_151 (by decide) ?_
          exact ih37 x19 x20 x21 x22 x24 _ _ _ hw (lv_sub hl [1, 2, 3, 4, 5, 6, 7, 8, 0] rfl) h
        have hL46 : ∀ (n : Nat) (x25 : Int32) (x26 : Int32) (x27 : Int32) (x28 : Int32) (x29 : Int32) (H : Heap) (locs : List Loc) (ls : Array Slot), b_Wd D A s.heap H locs [k_Model g a o pasts length printed told state backX backY boxes frees bestFree bestTurned bestFirst bestSecond v spare past kept isKept text paper left top wide high original turn boxX boxY boxW boxH freeAtX freeAtY freeW freeH begins ends tried aside] → lv_has ls 10 [(0, .ref (a o)), (1, .int i1), (2, .int x1), (3, .int x2), (4, .int x25), (5, .int x26), (6, .int x27), (7, .int x28), (8, .int x18), (9, .int x29)] → f_X11_trims_L46 v i1 x1 x18 k148_22 n x25 x26 x27 x28 x29 = some u → W p l e (g_rm 1 22) s m args below meth c H locs 0 0 Q (F0 m 46 ls []) := by
          intro n
          induction n with
          | zero =>
            intro x25 x26 x27 x28 x29 H locs ls hw hl h
            cases (show none = some u from h)
          | succ n ih46 =>
            intro x25 x26 x27 x28 x29 H locs ls hw hl h
            rw [f_X11_trims_L46] at h
            refine lv_iload hx hb dX11_trims_46 (lv_at hl 9 rfl) ?_
            refine lv_iload_n hx hb dX11_trims_48 rfl (lv_at hl 2 rfl) ?_
            refine lv_icmp_ge (tgt := 148) hx hb dX11_trims_49 (by decide) (fun hc49 => ?_) (fun hc49 => ?_)
            · rw [if_pos hc49] at h
              exact hk148_22 x25 x26 x27 x28 _ _ _ hw (lv_sub hl [0, 1, 2, 3, 4, 5, 6, 7, 8] rfl) h
            · rw [if_neg hc49] at h
              refine lv_aload_n hx hb dX11_trims_52 rfl (lv_at hl 0 rfl) ?_
              refine b_get hx hb hT hK hown fl_X11_7 hw 0 0 rfl rfl (v := .ref (a (o+1))) rfl dX11_trims_53 ?_
              refine lv_iload_n hx hb dX11_trims_56 rfl (lv_at hl 1 rfl) ?_
              refine lv_iload hx hb dX11_trims_57 (lv_at hl 9 rfl) ?_
              refine lv_iload hx hb dX11_trims_59 (lv_at hl 8 rfl) ?_
              refine b_callS hx hb hml hown hT hK hA hw mk_X11_118 (c_X11_pixelAt l D g i1 x29 x18) [] [0] rfl (by decide) rfl hl.1 [.ref (a (o+1))] rfl (Nat.le_of_ble_eq_true rfl) ⟨Nat.le_of_ble_eq_true rfl, Nat.le_of_ble_eq_true rfl⟩ ⟨Nat.zero_le _, Nat.zero_le _⟩ dX11_trims_61 (wb' := [k_Model g a o pasts length printed told state backX backY boxes frees bestFree bestTurned bestFirst bestSecond v spare past kept isKept text paper left top wide high original turn boxX boxY boxW boxH freeAtX freeAtY freeW freeH begins ends tried aside]) rfl (b_e1 rfl b_e0) 1 rfl (by decide) (st2 := [.int (f_X11_pixelAt i1 x29 x18), .ref (a (o+1))]) rfl (fun H locs hw => ?_)
              obtain ⟨x30, ex30, hix30, h⟩ := g_rd_some h
              refine b_iald hx hb hK hw 0 1 rfl (f := v) rfl hix30 ex30 dX11_trims_64 ?_
              obtain ⟨j142_34, ej142_34, h⟩ := g_jn_nm h
              have hj142_34 : ∀ (x31 : Int32) (x32 : Int32) (x33 : Int32) (x34 : Int32) (H : Heap) (locs : List Loc) (ls : Array Slot), b_Wd D A s.heap H locs [k_Model g a o pasts length printed told state backX backY boxes frees bestFree bestTurned bestFirst bestSecond v spare past kept isKept text paper left top wide high original turn boxX boxY boxW boxH freeAtX freeAtY freeW freeH begins ends tried aside] → lv_has ls 10 [(0, .ref (a o)), (1, .int i1), (2, .int x1), (3, .int x2), (4, .int x31), (5, .int x32), (6, .int x33), (7, .int x34), (8, .int x18), (9, .int x29)] → j142_34 x31 x32 x33 x34 = some u → W p l e (g_rm 1 22) s m args below meth c H locs 0 0 Q (F0 m 142 ls []) := by
                intro x31 x32 x33 x34 H locs ls hw hl h
                subst ej142_34
                dsimp only at h
                obtain ⟨x36, ex36, h⟩ := g_bd_nm h
                refine lv_iinc (v := x36) (lv' := [(9, .int x36), (0, .ref (a o)), (1, .int i1), (2, .int x1), (3, .int x2), (4, .int x31), (5, .int x32), (6, .int x33), (7, .int x34), (8, .int x18)]) hx hb dX11_trims_142 hl (k := 9) rfl (by rw [ex36]; rfl) (by decide) rfl (fun ls hl => ?_)
                refine lv_goto (tgt := 46) hx hb dX11_trims_145 (by decide) ?_
                exact ih46 x31 x32 x33 x34 x36 _ _ _ hw (lv_sub hl [1, 2, 3, 4, 5, 6, 7, 8, 9, 0] rfl) h
              obtain ⟨j78_36, ej78_36, h⟩ := g_jn_nm h
              have hj78_36 : ∀ (H : Heap) (locs : List Loc) (ls : Array Slot), b_Wd D A s.heap H locs [k_Model g a o pasts length printed told state backX backY boxes frees bestFree bestTurned bestFirst bestSecond v spare past kept isKept text paper left top wide high original turn boxX boxY boxW boxH freeAtX freeAtY freeW freeH begins ends tried aside] → lv_has ls 10 [(0, .ref (a o)), (1, .int i1), (2, .int x1), (3, .int x2), (4, .int x25), (5, .int x26), (6, .int x27), (7, .int x28), (8, .int x18), (9, .int x29)] → j78_36 = some u → W p l e (g_rm 1 22) s m args below meth c H locs 0 0 Q (F0 m 78 ls []) := by
                intro  H locs ls hw hl h
                subst ej78_36
                refine lv_iload hx hb dX11_trims_78 (lv_at hl 9 rfl) ?_
                refine lv_iload hx hb dX11_trims_80 (lv_at hl 4 rfl) ?_
                obtain ⟨j92_38, ej92_38, h⟩ := g_bd_k h
                have hj92_38 : ∀ (x38 : Int32) (H : Heap) (locs : List Loc) (ls : Array Slot), b_Wd D A s.heap H locs [k_Model g a o pasts length printed told state backX backY boxes frees bestFree bestTurned bestFirst bestSecond v spare past kept isKept text paper left top wide high original turn boxX boxY boxW boxH freeAtX freeAtY freeW freeH begins ends tried aside] → lv_has ls 10 [(0, .ref (a o)), (1, .int i1), (2, .int x1), (3, .int x2), (5, .int x26), (6, .int x27), (7, .int x28), (8, .int x18), (9, .int x29)] → j92_38 x38 = some u → W p l e (g_rm 1 22) s m args below meth c H locs 0 0 Q (F0 m 92 ls [.int x38]) := by
                  intro x38 H locs ls hw hl h
                  subst ej92_38
                  dsimp only at h
                  refine lv_istore (lv' := [(4, .int x38), (0, .ref (a o)), (1, .int i1), (2, .int x1), (3, .int x2), (5, .int x26), (6, .int x27), (7, .int x28), (8, .int x18), (9, .int x29)]) hx hb dX11_trims_92 hl (by decide) rfl (fun ls hl => ?_)
                  refine lv_iload hx hb dX11_trims_94 (lv_at hl 8 rfl) ?_
                  refine lv_iload hx hb dX11_trims_96 (lv_at hl 5 rfl) ?_
                  obtain ⟨j108_39, ej108_39, h⟩ := g_bd_k h
                  have hj108_39 : ∀ (x39 : Int32) (H : Heap) (locs : List Loc) (ls : Array Slot), b_Wd D A s.heap H locs [k_Model g a o pasts length printed told state backX backY boxes frees bestFree bestTurned bestFirst bestSecond v spare past kept isKept text paper left top wide high original turn boxX boxY boxW boxH freeAtX freeAtY freeW freeH begins ends tried aside] → lv_has ls 10 [(0, .ref (a o)), (1, .int i1), (2, .int x1), (3, .int x2), (4, .int x38), (6, .int x27), (7, .int x28), (8, .int x18), (9, .int x29)] → j108_39 x39 = some u → W p l e (g_rm 1 22) s m args below meth c H locs 0 0 Q (F0 m 108 ls [.int x39]) := by
                    intro x39 H locs ls hw hl h
                    subst ej108_39
                    dsimp only at h
                    refine lv_istore (lv' := [(5, .int x39), (0, .ref (a o)), (1, .int i1), (2, .int x1), (3, .int x2), (4, .int x38), (6, .int x27), (7, .int x28), (8, .int x18), (9, .int x29)]) hx hb dX11_trims_108 hl (by decide) rfl (fun ls hl => ?_)
                    refine lv_iload hx hb dX11_trims_110 (lv_at hl 9 rfl) ?_
                    refine lv_iload hx hb dX11_trims_112 (lv_at hl 6 rfl) ?_
                    obtain ⟨j124_40, ej124_40, h⟩ := g_bd_k h
                    have hj124_40 : ∀ (x40 : Int32) (H : Heap) (locs : List Loc) (ls : Array Slot), b_Wd D A s.heap H locs [k_Model g a o pasts length printed told state backX backY boxes frees bestFree bestTurned bestFirst bestSecond v spare past kept isKept text paper left top wide high original turn boxX boxY boxW boxH freeAtX freeAtY freeW freeH begins ends tried aside] → lv_has ls 10 [(0, .ref (a o)), (1, .int i1), (2, .int x1), (3, .int x2), (4, .int x38), (5, .int x39), (7, .int x28), (8, .int x18), (9, .int x29)] → j124_40 x40 = some u → W p l e (g_rm 1 22) s m args below meth c H locs 0 0 Q (F0 m 124 ls [.int x40]) := by
                      intro x40 H locs ls hw hl h
                      subst ej124_40
                      dsimp only at h
                      refine lv_istore (lv' := [(6, .int x40), (0, .ref (a o)), (1, .int i1), (2, .int x1), (3, .int x2), (4, .int x38), (5, .int x39), (7, .int x28), (8, .int x18), (9, .int x29)]) hx hb dX11_trims_124 hl (by decide) rfl (fun ls hl => ?_)
                      refine lv_iload hx hb dX11_trims_126 (lv_at hl 8 rfl) ?_
                      refine lv_iload hx hb dX11_trims_128 (lv_at hl 7 rfl) ?_
                      obtain ⟨j140_41, ej140_41, h⟩ := g_bd_k h
                      have hj140_41 : ∀ (x41 : Int32) (H : Heap) (locs : List Loc) (ls : Array Slot), b_Wd D A s.heap H locs [k_Model g a o pasts length printed told state backX backY boxes frees bestFree bestTurned bestFirst bestSecond v spare past kept isKept text paper left top wide high original turn boxX boxY boxW boxH freeAtX freeAtY freeW freeH begins ends tried aside] → lv_has ls 10 [(0, .ref (a o)), (1, .int i1), (2, .int x1), (3, .int x2), (4, .int x38), (5, .int x39), (6, .int x40), (8, .int x18), (9, .int x29)] → j140_41 x41 = some u → W p l e (g_rm 1 22) s m args below meth c H locs 0 0 Q (F0 m 140 ls [.int x41]) := by
                        intro x41 H locs ls hw hl h
                        subst ej140_41
                        dsimp only at h
                        refine lv_istore (lv' := [(7, .int x41), (0, .ref (a o)), (1, .int i1), (2, .int x1), (3, .int x2), (4, .int x38), (5, .int x39), (6, .int x40), (8, .int x18), (9, .int x29)]) hx hb dX11_trims_140 hl (by decide) rfl (fun ls hl => ?_)
                        exact hj142_34 x38 x39 x40 x41 _ _ _ hw (lv_sub hl [1, 2, 3, 4, 5, 6, 7, 0, 8, 9] rfl) h
                      refine lv_icmp_le (tgt := 138) hx hb dX11_trims_130 (by decide) (fun hc130 => ?_) (fun hc130 => ?_)
                      · rw [if_pos hc130] at h
                        refine lv_iload hx hb dX11_trims_138 (lv_at hl 7 rfl) ?_
                        exact hj140_41 x28 _ _ _ hw (lv_sub hl [1, 2, 3, 4, 5, 6, 0, 8, 9] rfl) h
                      · rw [if_neg hc130] at h
                        refine lv_iload hx hb dX11_trims_133 (lv_at hl 8 rfl) ?_
                        refine lv_goto (tgt := 140) hx hb dX11_trims_135 (by decide) ?_
                        exact hj140_41 x18 _ _ _ hw (lv_sub hl [1, 2, 3, 4, 5, 6, 0, 8, 9] rfl) h
                    refine lv_icmp_le (tgt := 122) hx hb dX11_trims_114 (by decide) (fun hc114 => ?_) (fun hc114 => ?_)
                    · rw [if_pos hc114] at h
                      refine lv_iload hx hb dX11_trims_122 (lv_at hl 6 rfl) ?_
                      exact hj124_40 x27 _ _ _ hw (lv_sub hl [1, 2, 3, 4, 5, 0, 7, 8, 9] rfl) h
                    · rw [if_neg hc114] at h
                      refine lv_iload hx hb dX11_trims_117 (lv_at hl 9 rfl) ?_
                      refine lv_goto (tgt := 124) hx hb dX11_trims_119 (by decide) ?_
                      exact hj124_40 x29 _ _ _ hw (lv_sub hl [1, 2, 3, 4, 5, 0, 7, 8, 9] rfl) h
                  refine lv_icmp_ge (tgt := 106) hx hb dX11_trims_98 (by decide) (fun hc98 => ?_) (fun hc98 => ?_)
                  · rw [if_pos hc98] at h
                    refine lv_iload hx hb dX11_trims_106 (lv_at hl 5 rfl) ?_
                    exact hj108_39 x26 _ _ _ hw (lv_sub hl [1, 2, 3, 4, 0, 6, 7, 8, 9] rfl) h
                  · rw [if_neg hc98] at h
                    refine lv_iload hx hb dX11_trims_101 (lv_at hl 8 rfl) ?_
                    refine lv_goto (tgt := 108) hx hb dX11_trims_103 (by decide) ?_
                    exact hj108_39 x18 _ _ _ hw (lv_sub hl [1, 2, 3, 4, 0, 6, 7, 8, 9] rfl) h
                refine lv_icmp_ge (tgt := 90) hx hb dX11_trims_82 (by decide) (fun hc82 => ?_) (fun hc82 => ?_)
                · rw [if_pos hc82] at h
                  refine lv_iload hx hb dX11_trims_90 (lv_at hl 4 rfl) ?_
                  exact hj92_38 x25 _ _ _ hw (lv_sub hl [0, 1, 2, 3, 5, 6, 7, 8, 9] rfl) h
                · rw [if_neg hc82] at h
                  refine lv_iload hx hb dX11_trims_85 (lv_at hl 9 rfl) ?_
                  refine lv_goto (tgt := 92) hx hb dX11_trims_87 (by decide) ?_
                  exact hj92_38 x29 _ _ _ hw (lv_sub hl [0, 1, 2, 3, 5, 6, 7, 8, 9] rfl) h
              refine lv_if_ne (tgt := 78) hx hb dX11_trims_65 (by decide) (fun hc65 => ?_) (fun hc65 => ?_)
              · rw [if_neg hc65] at h
                exact hj78_36  _ _ _ hw (lv_sub hl [0, 1, 2, 3, 4, 5, 6, 7, 8, 9] rfl) h
              · rw [if_pos hc65] at h
                refine lv_aload_n hx hb dX11_trims_68 rfl (lv_at hl 0 rfl) ?_
                refine b_get hx hb hT hK hown fl_X11_7 hw 0 0 rfl rfl (v := .ref (a (o+1))) rfl dX11_trims_69 ?_
                refine lv_bipush (v := 7) hx hb dX11_trims_72 (by decide) ?_
                obtain ⟨x42, ex42, hix42, h⟩ := g_rd_some h
                refine b_iald hx hb hK hw 0 1 rfl (f := v) rfl hix42 ex42 dX11_trims_74 ?_
                refine lv_if_ne (tgt := 142) hx hb dX11_trims_75 (by decide) (fun hc75 => ?_) (fun hc75 => ?_)
                · rw [if_neg hc75] at h
                  exact hj142_34 x25 x26 x27 x28 _ _ _ hw (lv_sub hl [0, 1, 2, 3, 4, 5, 6, 7, 8, 9] rfl) h
                · rw [if_pos hc75] at h
                  exact hj78_36  _ _ _ hw (lv_sub hl [0, 1, 2, 3, 4, 5, 6, 7, 8, 9] rfl) h
        exact hL46 g_fuel x14 x15 x16 x17 (0 : Int32) _ _ _ hw (lv_sub hl [1, 2, 3, 4, 5, 6, 7, 8, 9, 0] rfl) h
  exact hL37 g_fuel x1 x2 (-1 : Int32) (-1 : Int32) (0 : Int32) _ _ _ hw (lv_sub hl [7, 8, 6, 5, 4, 3, 2, 1, 0] rfl) h
set_option maxRecDepth 100000 in
set_option maxHeartbeats 4000000 in
theorem c_X11_turnsBack (l : Launch) (D : va_G) (g : Nat → ClassId) (a : Nat → Nat) (o : Nat) (pasts : Int32) (length : Int32) (printed : Int32) (told : Int32) (state : Int64) (backX : Int32) (backY : Int32) (boxes : Int32) (frees : Int32) (bestFree : Int32) (bestTurned : Int32) (bestFirst : Int32) (bestSecond : Int32) (v : (Nat → Int32)) (spare : (Nat → Int32)) (past : (Nat → Int32)) (kept : (Nat → Int32)) (isKept : (Nat → Int32)) (text : (Nat → Int32)) (paper : (Nat → Int32)) (left : (Nat → Int32)) (top : (Nat → Int32)) (wide : (Nat → Int32)) (high : (Nat → Int32)) (original : (Nat → Int32)) (turn : (Nat → Int32)) (boxX : (Nat → Int32)) (boxY : (Nat → Int32)) (boxW : (Nat → Int32)) (boxH : (Nat → Int32)) (freeAtX : (Nat → Int32)) (freeAtY : (Nat → Int32)) (freeW : (Nat → Int32)) (freeH : (Nat → Int32)) (begins : (Nat → Int32)) (ends : (Nat → Int32)) (tried : (Nat → Int32)) (aside : (Nat → Int32)) (i1 : Int32) (i2 : Int32) (i3 : Int32) (i4 : Int32) (i5 : Int32) (u : Int32 × Int32) (h : f_X11_turnsBack i1 i2 i3 i4 i5 = some u) : b_Ct l yX11_turnsBack cX11_turnsBack 9 none 0 0 D g [.ref (a o), .int i1, .int i2, .int i3, .int i4, .int i5] [k_Model g a o pasts length printed told state backX backY boxes frees bestFree bestTurned bestFirst bestSecond v spare past kept isKept text paper left top wide high original turn boxX boxY boxW boxH freeAtX freeAtY freeW freeH begins ends tried aside] [k_Model g a o pasts length printed told state u.1 u.2 boxes frees bestFree bestTurned bestFirst bestSecond v spare past kept isKept text paper left top wide high original turn boxX boxY boxW boxH freeAtX freeAtY freeW freeH begins ends tried aside] none := by
  refine b_start RX11 (by decide) rfl (Nat.le_of_ble_eq_true rfl) rfl ?_
  intro p e s m args below meth c A ls Q hQ hx hb hr hlk hml hown hT hK hA hw hl
  have hl : lv_has ls 9 [(0, .ref (a o)), (1, .int i1), (2, .int i2), (3, .int i3), (4, .int i4), (5, .int i5)] := hl
  unfold f_X11_turnsBack at h
  refine lv_aload_n hx hb dX11_turnsBack_0 rfl (lv_at hl 0 rfl) ?_
  refine lv_iload hx hb dX11_turnsBack_1 (lv_at hl 4 rfl) ?_
  refine b_putf hx hb hT hK hown fl_X11_148 ft_X11 hw 0 0 rfl rfl rfl rfl rfl (Nat.le_of_ble_eq_true rfl) rfl (wb' := [k_Model g a o pasts length printed told state i4 backY boxes frees bestFree bestTurned bestFirst bestSecond v spare past kept isKept text paper left top wide high original turn boxX boxY boxW boxH freeAtX freeAtY freeW freeH begins ends tried aside]) rfl dX11_turnsBack_3 (fun H locs hw => ?_)
  refine lv_aload_n hx hb dX11_turnsBack_6 rfl (lv_at hl 0 rfl) ?_
  refine lv_iload hx hb dX11_turnsBack_7 (lv_at hl 5 rfl) ?_
  refine b_putf hx hb hT hK hown fl_X11_151 ft_X11 hw 0 0 rfl rfl rfl rfl rfl (Nat.le_of_ble_eq_true rfl) rfl (wb' := [k_Model g a o pasts length printed told state i4 i5 boxes frees bestFree bestTurned bestFirst bestSecond v spare past kept isKept text paper left top wide high original turn boxX boxY boxW boxH freeAtX freeAtY freeW freeH begins ends tried aside]) rfl dX11_turnsBack_9 (fun H locs hw => ?_)
  refine lv_iload_n hx hb dX11_turnsBack_12 rfl (lv_at hl 1 rfl) ?_
  refine lv_iconst (v := 4) hx hb dX11_turnsBack_13 (by decide) ?_
  refine g_irem hx hb dX11_turnsBack_14 (by decide) ?_
  obtain ⟨x1, ex1, h⟩ := g_bd_nm h
  refine g_topi ex1 ?_
  refine lv_istore (lv' := [(6, .int x1), (0, .ref (a o)), (1, .int i1), (2, .int i2), (3, .int i3), (4, .int i4), (5, .int i5)]) hx hb dX11_turnsBack_15 hl (by decide) rfl (fun ls hl => ?_)
  obtain ⟨k68_3, ek68_3, h⟩ := g_jn_nm h
  have hk68_3 : ∀ (x2 : Int32) (x3 : Int32) (H : Heap) (locs : List Loc) (ls : Array Slot), b_Wd D A s.heap H locs [k_Model g a o pasts length printed told state x2 x3 boxes frees bestFree bestTurned bestFirst bestSecond v spare past kept isKept text paper left top wide high original turn boxX boxY boxW boxH freeAtX freeAtY freeW freeH begins ends tried aside] → lv_has ls 9 [(0, .ref (a o)), (1, .int i1), (2, .int i2)] → k68_3 x2 x3 = some u → W p l e (g_rm 0 0) s m args below meth c H locs 0 0 Q (F0 m 68 ls []) := by
    intro x2 x3 H locs ls hw hl h
    subst ek68_3
    dsimp only at h
    refine lv_aload_n hx hb dX11_turnsBack_68 rfl (lv_at hl 0 rfl) ?_
    refine lv_iload_n hx hb dX11_turnsBack_69 rfl (lv_at hl 1 rfl) ?_
    refine lv_iconst (v := 4) hx hb dX11_turnsBack_70 (by decide) ?_
    obtain ⟨j89_5, ej89_5, h⟩ := g_bd_k h
    have hj89_5 : ∀ (x5 : Int32) (H : Heap) (locs : List Loc) (ls : Array Slot), b_Wd D A s.heap H locs [k_Model g a o pasts length printed told state x2 x3 boxes frees bestFree bestTurned bestFirst bestSecond v spare past kept isKept text paper left top wide high original turn boxX boxY boxW boxH freeAtX freeAtY freeW freeH begins ends tried aside] → lv_has ls 9 [] → j89_5 x5 = some u → W p l e (g_rm 0 0) s m args below meth c H locs 0 0 Q (F0 m 89 ls [.int x5, .ref (a o)]) := by
      intro x5 H locs ls hw hl h
      subst ej89_5
      dsimp only at h
      refine b_putf hx hb hT hK hown fl_X11_148 ft_X11 hw 0 0 rfl rfl rfl rfl rfl (Nat.le_of_ble_eq_true rfl) rfl (wb' := [k_Model g a o pasts length printed told state x5 x3 boxes frees bestFree bestTurned bestFirst bestSecond v spare past kept isKept text paper left top wide high original turn boxX boxY boxW boxH freeAtX freeAtY freeW freeH begins ends tried aside]) rfl dX11_turnsBack_89 (fun H locs hw => ?_)
      obtain rfl := Option.some.inj h
      exact b_vret hQ hx hb hr hlk hw rfl dX11_turnsBack_92
    refine lv_icmp_lt (tgt := 85) hx hb dX11_turnsBack_71 (by decide) (fun hc71 => ?_) (fun hc71 => ?_)
    · rw [if_pos hc71] at h
      refine lv_aload_n hx hb dX11_turnsBack_85 rfl (lv_at hl 0 rfl) ?_
      refine b_get hx hb hT hK hown fl_X11_148 hw 0 0 rfl rfl (v := .int x2) rfl dX11_turnsBack_86 ?_
      exact hj89_5 x2 _ _ _ hw (lv_sub hl [] rfl) h
    · rw [if_neg hc71] at h
      refine lv_iload_n hx hb dX11_turnsBack_74 rfl (lv_at hl 2 rfl) ?_
      refine lv_iconst (v := 1) hx hb dX11_turnsBack_75 (by decide) ?_
      refine lv_isub hx hb dX11_turnsBack_76 ?_
      refine lv_aload_n hx hb dX11_turnsBack_77 rfl (lv_at hl 0 rfl) ?_
      refine b_get hx hb hT hK hown fl_X11_148 hw 0 0 rfl rfl (v := .int x2) rfl dX11_turnsBack_78 ?_
      refine lv_isub hx hb dX11_turnsBack_81 ?_
      refine lv_goto (tgt := 89) hx hb dX11_turnsBack_82 (by decide) ?_
      exact hj89_5 ((i2 - (1 : Int32)) - x2) _ _ _ hw (lv_sub hl [] rfl) h
  have hL17 : ∀ (n : Nat) (x6 : Int32) (x7 : Int32) (x8 : Int32) (H : Heap) (locs : List Loc) (ls : Array Slot), b_Wd D A s.heap H locs [k_Model g a o pasts length printed told state x7 x8 boxes frees bestFree bestTurned bestFirst bestSecond v spare past kept isKept text paper left top wide high original turn boxX boxY boxW boxH freeAtX freeAtY freeW freeH begins ends tried aside] → lv_has ls 9 [(0, .ref (a o)), (1, .int i1), (2, .int i2), (3, .int i3), (6, .int x6)] → f_X11_turnsBack_L17 i2 i3 k68_3 n x6 x7 x8 = some u → W p l e (g_rm 0 0) s m args below meth c H locs 0 0 Q (F0 m 17 ls []) := by
    intro n
    induction n with
    | zero =>
      intro x6 x7 x8 H locs ls hw hl h
      cases (show none = some u from h)
    | succ n ih17 =>
      intro x6 x7 x8 H locs ls hw hl h
      rw [f_X11_turnsBack_L17] at h
      refine lv_iload hx hb dX11_turnsBack_17 (lv_at hl 4 rfl) ?_
      refine lv_if_le (tgt := 68) hx hb dX11_turnsBack_19 (by decide) (fun hc19 => ?_) (fun hc19 => ?_)
      · rw [if_pos hc19] at h
        exact hk68_3 x7 x8 _ _ _ hw (lv_sub hl [0, 1, 2] rfl) h
      · rw [if_neg hc19] at h
        refine lv_iload hx hb dX11_turnsBack_22 (lv_at hl 4 rfl) ?_
        refine lv_iconst (v := 2) hx hb dX11_turnsBack_24 (by decide) ?_
        refine g_irem hx hb dX11_turnsBack_25 (by decide) ?_
        refine lv_iconst (v := 1) hx hb dX11_turnsBack_26 (by decide) ?_
        obtain ⟨j35_9, ej35_9, h⟩ := g_bd_k h
        have hj35_9 : ∀ (x9 : Int32) (H : Heap) (locs : List Loc) (ls : Array Slot), b_Wd D A s.heap H locs [k_Model g a o pasts length printed told state x7 x8 boxes frees bestFree bestTurned bestFirst bestSecond v spare past kept isKept text paper left top wide high original turn boxX boxY boxW boxH freeAtX freeAtY freeW freeH begins ends tried aside] → lv_has ls 9 [(0, .ref (a o)), (1, .int i1), (2, .int i2), (3, .int i3), (6, .int x6)] → j35_9 x9 = some u → W p l e (g_rm 0 0) s m args below meth c H locs 0 0 Q (F0 m 35 ls [.int x9]) := by
          intro x9 H locs ls hw hl h
          subst ej35_9
          dsimp only at h
          refine lv_istore (lv' := [(7, .int x9), (0, .ref (a o)), (1, .int i1), (2, .int i2), (3, .int i3), (6, .int x6)]) hx hb dX11_turnsBack_35 hl (by decide) rfl (fun ls hl => ?_)
          refine lv_aload_n hx hb dX11_turnsBack_37 rfl (lv_at hl 1 rfl) ?_
          refine b_get hx hb hT hK hown fl_X11_148 hw 0 0 rfl rfl (v := .int x7) rfl dX11_turnsBack_38 ?_
          refine lv_istore (lv' := [(8, .int x7), (7, .int x9), (0, .ref (a o)), (1, .int i1), (2, .int i2), (3, .int i3), (6, .int x6)]) hx hb dX11_turnsBack_41 hl (by decide) rfl (fun ls hl => ?_)
          refine lv_aload_n hx hb dX11_turnsBack_43 rfl (lv_at hl 2 rfl) ?_
          refine lv_aload_n hx hb dX11_turnsBack_44 rfl (lv_at hl 2 rfl) ?_
          refine b_get hx hb hT hK hown fl_X11_151 hw 0 0 rfl rfl (v := .int x8) rfl dX11_turnsBack_45 ?_
          refine b_putf hx hb hT hK hown fl_X11_148 ft_X11 hw 0 0 rfl rfl rfl rfl rfl (Nat.le_of_ble_eq_true rfl) rfl (wb' := [k_Model g a o pasts length printed told state x8 x8 boxes frees bestFree bestTurned bestFirst bestSecond v spare past kept isKept text paper left top wide high original turn boxX boxY boxW boxH freeAtX freeAtY freeW freeH begins ends tried aside]) rfl dX11_turnsBack_48 (fun H locs hw => ?_)
          refine lv_aload_n hx hb dX11_turnsBack_51 rfl (lv_at hl 2 rfl) ?_
          refine lv_iload hx hb dX11_turnsBack_52 (lv_at hl 1 rfl) ?_
          refine lv_iconst (v := 1) hx hb dX11_turnsBack_54 (by decide) ?_
          refine lv_isub hx hb dX11_turnsBack_55 ?_
          refine lv_iload hx hb dX11_turnsBack_56 (lv_at hl 0 rfl) ?_
          refine lv_isub hx hb dX11_turnsBack_58 ?_
          obtain ⟨x10, ex10, h⟩ := g_bd_nm h
          refine g_topi ex10 ?_
          refine b_putf hx hb hT hK hown fl_X11_151 ft_X11 hw 0 0 rfl rfl rfl rfl rfl (Nat.le_of_ble_eq_true rfl) rfl (wb' := [k_Model g a o pasts length printed told state x8 x10 boxes frees bestFree bestTurned bestFirst bestSecond v spare past kept isKept text paper left top wide high original turn boxX boxY boxW boxH freeAtX freeAtY freeW freeH begins ends tried aside]) rfl dX11_turnsBack_59 (fun H locs hw => ?_)
          obtain ⟨x11, ex11, h⟩ := g_bd_nm h
          refine lv_iinc (v := x11) (lv' := [(6, .int x11), (8, .int x7), (7, .int x9), (0, .ref (a o)), (1, .int i1), (2, .int i2), (3, .int i3)]) hx hb dX11_turnsBack_62 hl (k := 6) rfl (by rw [ex11]; rfl) (by decide) rfl (fun ls hl => ?_)
          refine lv_goto (tgt := 17) hx hb dX11_turnsBack_65 (by decide) ?_
          exact ih17 x11 x8 x10 _ _ _ hw (lv_sub hl [3, 4, 5, 6, 0] rfl) h
        refine lv_icmp_ne (tgt := 34) hx hb dX11_turnsBack_27 (by decide) (fun hc27 => ?_) (fun hc27 => ?_)
        · rw [if_neg hc27] at h
          refine lv_iload_n hx hb dX11_turnsBack_34 rfl (lv_at hl 2 rfl) ?_
          exact hj35_9 i2 _ _ _ hw (lv_sub hl [0, 1, 2, 3, 4] rfl) h
        · rw [if_pos hc27] at h
          refine lv_iload_n hx hb dX11_turnsBack_30 rfl (lv_at hl 3 rfl) ?_
          refine lv_goto (tgt := 35) hx hb dX11_turnsBack_31 (by decide) ?_
          exact hj35_9 i3 _ _ _ hw (lv_sub hl [0, 1, 2, 3, 4] rfl) h
  exact hL17 g_fuel x1 i4 i5 _ _ _ hw (lv_sub hl [1, 2, 3, 4, 0] rfl) h
set_option maxRecDepth 100000 in
set_option maxHeartbeats 4000000 in
theorem c_X11_colorBy (l : Launch) (D : va_G) (g : Nat → ClassId) (a : Nat → Nat) (o : Nat) (pasts : Int32) (length : Int32) (printed : Int32) (told : Int32) (state : Int64) (backX : Int32) (backY : Int32) (boxes : Int32) (frees : Int32) (bestFree : Int32) (bestTurned : Int32) (bestFirst : Int32) (bestSecond : Int32) (v : (Nat → Int32)) (spare : (Nat → Int32)) (past : (Nat → Int32)) (kept : (Nat → Int32)) (isKept : (Nat → Int32)) (text : (Nat → Int32)) (paper : (Nat → Int32)) (left : (Nat → Int32)) (top : (Nat → Int32)) (wide : (Nat → Int32)) (high : (Nat → Int32)) (original : (Nat → Int32)) (turn : (Nat → Int32)) (boxX : (Nat → Int32)) (boxY : (Nat → Int32)) (boxW : (Nat → Int32)) (boxH : (Nat → Int32)) (freeAtX : (Nat → Int32)) (freeAtY : (Nat → Int32)) (freeW : (Nat → Int32)) (freeH : (Nat → Int32)) (begins : (Nat → Int32)) (ends : (Nat → Int32)) (tried : (Nat → Int32)) (aside : (Nat → Int32)) (i1 : Int32) (i2 : Int32) (i3 : Int32) (i4 : Int32) (i5 : Int32) (u : Int32 × Int32 × Int32) (h : f_X11_colorBy v left top wide high i1 i2 i3 i4 i5 = some u) : b_Ct l yX11_colorBy cX11_colorBy 6 (some .int) 1 28 D g [.ref (a o), .int i1, .int i2, .int i3, .int i4, .int i5] [k_Model g a o pasts length printed told state backX backY boxes frees bestFree bestTurned bestFirst bestSecond v spare past kept isKept text paper left top wide high original turn boxX boxY boxW boxH freeAtX freeAtY freeW freeH begins ends tried aside] [k_Model g a o pasts length printed told state u.2.1 u.2.2 boxes frees bestFree bestTurned bestFirst bestSecond v spare past kept isKept text paper left top wide high original turn boxX boxY boxW boxH freeAtX freeAtY freeW freeH begins ends tried aside] (some (.int u.1)) := by
  refine b_start RX11 (by decide) rfl (Nat.le_of_ble_eq_true rfl) rfl ?_
  intro p e s m args below meth c A ls Q hQ hx hb hr hlk hml hown hT hK hA hw hl
  have hl : lv_has ls 6 [(0, .ref (a o)), (1, .int i1), (2, .int i2), (3, .int i3), (4, .int i4), (5, .int i5)] := hl
  unfold f_X11_colorBy at h
  refine lv_aload_n hx hb dX11_colorBy_0 rfl (lv_at hl 0 rfl) ?_
  refine lv_iload_n hx hb dX11_colorBy_1 rfl (lv_at hl 3 rfl) ?_
  refine lv_iload_n hx hb dX11_colorBy_2 rfl (lv_at hl 2 rfl) ?_
  obtain ⟨j21_1, ej21_1, h⟩ := g_jn_nm h
  have hj21_1 : ∀ (x1 : Int32) (H : Heap) (locs : List Loc) (ls : Array Slot), b_Wd D A s.heap H locs [k_Model g a o pasts length printed told state backX backY boxes frees bestFree bestTurned bestFirst bestSecond v spare past kept isKept text paper left top wide high original turn boxX boxY boxW boxH freeAtX freeAtY freeW freeH begins ends tried aside] → lv_has ls 6 [(0, .ref (a o)), (1, .int i1), (2, .int i2), (4, .int i4), (5, .int i5)] → j21_1 x1 = some u → W p l e (g_rm 1 28) s m args below meth c H locs 0 0 Q (F0 m 21 ls [.int x1, .int i3, .ref (a o)]) := by
    intro x1 H locs ls hw hl h
    subst ej21_1
    dsimp only at h
    refine lv_iload_n hx hb dX11_colorBy_21 rfl (lv_at hl 2 rfl) ?_
    obtain ⟨j40_3, ej40_3, h⟩ := g_jn_nm h
    have hj40_3 : ∀ (x3 : Int32) (H : Heap) (locs : List Loc) (ls : Array Slot), b_Wd D A s.heap H locs [k_Model g a o pasts length printed told state backX backY boxes frees bestFree bestTurned bestFirst bestSecond v spare past kept isKept text paper left top wide high original turn boxX boxY boxW boxH freeAtX freeAtY freeW freeH begins ends tried aside] → lv_has ls 6 [(0, .ref (a o)), (1, .int i1), (2, .int i2), (4, .int i4), (5, .int i5)] → j40_3 x3 = some u → W p l e (g_rm 1 28) s m args below meth c H locs 0 0 Q (F0 m 40 ls [.int x3, .int x1, .int i3, .ref (a o)]) := by
      intro x3 H locs ls hw hl h
      subst ej40_3
      dsimp only at h
      refine lv_iload hx hb dX11_colorBy_40 (lv_at hl 3 rfl) ?_
      refine lv_iload hx hb dX11_colorBy_42 (lv_at hl 4 rfl) ?_
      obtain ⟨r5, er5, h⟩ := g_cl_some h
      refine b_callV hx hb hml hown hT hK hA hw mk_X11_154 (c_X11_turnsBack l D g a o pasts length printed told state backX backY boxes frees bestFree bestTurned bestFirst bestSecond v spare past kept isKept text paper left top wide high original turn boxX boxY boxW boxH freeAtX freeAtY freeW freeH begins ends tried aside i3 x1 x3 i4 i5 r5 er5) [0] [] rfl (by decide) 0 0 rfl rfl rfl rfl hl.1 [] rfl (Nat.le_of_ble_eq_true rfl) ⟨Nat.le_of_ble_eq_true rfl, Nat.le_of_ble_eq_true rfl⟩ ⟨Nat.zero_le _, Nat.zero_le _⟩ dX11_colorBy_44 (wb' := [k_Model g a o pasts length printed told state r5.1 r5.2 boxes frees bestFree bestTurned bestFirst bestSecond v spare past kept isKept text paper left top wide high original turn boxX boxY boxW boxH freeAtX freeAtY freeW freeH begins ends tried aside]) rfl b_e0 1 rfl (by decide) (st2 := []) rfl (fun H locs hw => ?_)
      refine lv_aload_n hx hb dX11_colorBy_47 rfl (lv_at hl 0 rfl) ?_
      refine lv_iload_n hx hb dX11_colorBy_48 rfl (lv_at hl 2 rfl) ?_
      refine lv_aload_n hx hb dX11_colorBy_49 rfl (lv_at hl 0 rfl) ?_
      refine b_get hx hb hT hK hown fl_X11_38 hw 0 0 rfl rfl (v := .ref (a (o+10))) rfl dX11_colorBy_50 ?_
      refine lv_iload_n hx hb dX11_colorBy_53 rfl (lv_at hl 1 rfl) ?_
      obtain ⟨x6, ex6, hix6, h⟩ := g_rd_some h
      refine b_iald hx hb hK hw 0 10 rfl (f := wide) rfl hix6 ex6 dX11_colorBy_54 ?_
      refine lv_aload_n hx hb dX11_colorBy_55 rfl (lv_at hl 0 rfl) ?_
      refine b_get hx hb hT hK hown fl_X11_41 hw 0 0 rfl rfl (v := .ref (a (o+11))) rfl dX11_colorBy_56 ?_
      refine lv_iload_n hx hb dX11_colorBy_59 rfl (lv_at hl 1 rfl) ?_
      obtain ⟨x7, ex7, hix7, h⟩ := g_rd_some h
      refine b_iald hx hb hK hw 0 11 rfl (f := high) rfl hix7 ex7 dX11_colorBy_60 ?_
      refine lv_aload_n hx hb dX11_colorBy_61 rfl (lv_at hl 0 rfl) ?_
      refine b_get hx hb hT hK hown fl_X11_148 hw 0 0 rfl rfl (v := .int r5.1) rfl dX11_colorBy_62 ?_
      refine lv_aload_n hx hb dX11_colorBy_65 rfl (lv_at hl 0 rfl) ?_
      refine b_get hx hb hT hK hown fl_X11_151 hw 0 0 rfl rfl (v := .int r5.2) rfl dX11_colorBy_66 ?_
      obtain ⟨r8, er8, h⟩ := g_cl_some h
      refine b_callV hx hb hml hown hT hK hA hw mk_X11_154 (c_X11_turnsBack l D g a o pasts length printed told state r5.1 r5.2 boxes frees bestFree bestTurned bestFirst bestSecond v spare past kept isKept text paper left top wide high original turn boxX boxY boxW boxH freeAtX freeAtY freeW freeH begins ends tried aside i2 x6 x7 r5.1 r5.2 r8 er8) [0] [] rfl (by decide) 0 0 rfl rfl rfl rfl hl.1 [] rfl (Nat.le_of_ble_eq_true rfl) ⟨Nat.le_of_ble_eq_true rfl, Nat.le_of_ble_eq_true rfl⟩ ⟨Nat.zero_le _, Nat.zero_le _⟩ dX11_colorBy_69 (wb' := [k_Model g a o pasts length printed told state r8.1 r8.2 boxes frees bestFree bestTurned bestFirst bestSecond v spare past kept isKept text paper left top wide high original turn boxX boxY boxW boxH freeAtX freeAtY freeW freeH begins ends tried aside]) rfl b_e0 1 rfl (by decide) (st2 := []) rfl (fun H locs hw => ?_)
      refine lv_aload_n hx hb dX11_colorBy_72 rfl (lv_at hl 0 rfl) ?_
      refine b_get hx hb hT hK hown fl_X11_7 hw 0 0 rfl rfl (v := .ref (a (o+1))) rfl dX11_colorBy_73 ?_
      refine lv_iload_n hx hb dX11_colorBy_76 rfl (lv_at hl 1 rfl) ?_
      refine lv_aload_n hx hb dX11_colorBy_77 rfl (lv_at hl 0 rfl) ?_
      refine b_get hx hb hT hK hown fl_X11_32 hw 0 0 rfl rfl (v := .ref (a (o+8))) rfl dX11_colorBy_78 ?_
      refine lv_iload_n hx hb dX11_colorBy_81 rfl (lv_at hl 1 rfl) ?_
      obtain ⟨x9, ex9, hix9, h⟩ := g_rd_some h
      refine b_iald hx hb hK hw 0 8 rfl (f := left) rfl hix9 ex9 dX11_colorBy_82 ?_
      refine lv_aload_n hx hb dX11_colorBy_83 rfl (lv_at hl 0 rfl) ?_
      refine b_get hx hb hT hK hown fl_X11_148 hw 0 0 rfl rfl (v := .int r8.1) rfl dX11_colorBy_84 ?_
      refine lv_iadd hx hb dX11_colorBy_87 ?_
      refine lv_aload_n hx hb dX11_colorBy_88 rfl (lv_at hl 0 rfl) ?_
      refine b_get hx hb hT hK hown fl_X11_35 hw 0 0 rfl rfl (v := .ref (a (o+9))) rfl dX11_colorBy_89 ?_
      refine lv_iload_n hx hb dX11_colorBy_92 rfl (lv_at hl 1 rfl) ?_
      obtain ⟨x10, ex10, hix10, h⟩ := g_rd_some h
      refine b_iald hx hb hK hw 0 9 rfl (f := top) rfl hix10 ex10 dX11_colorBy_93 ?_
      refine lv_aload_n hx hb dX11_colorBy_94 rfl (lv_at hl 0 rfl) ?_
      refine b_get hx hb hT hK hown fl_X11_151 hw 0 0 rfl rfl (v := .int r8.2) rfl dX11_colorBy_95 ?_
      refine lv_iadd hx hb dX11_colorBy_98 ?_
      refine b_callS hx hb hml hown hT hK hA hw mk_X11_118 (c_X11_pixelAt l D g i1 (x9 + r8.1) (x10 + r8.2)) [] [0] rfl (by decide) rfl hl.1 [.ref (a (o+1))] rfl (Nat.le_of_ble_eq_true rfl) ⟨Nat.le_of_ble_eq_true rfl, Nat.le_of_ble_eq_true rfl⟩ ⟨Nat.zero_le _, Nat.zero_le _⟩ dX11_colorBy_99 (wb' := [k_Model g a o pasts length printed told state r8.1 r8.2 boxes frees bestFree bestTurned bestFirst bestSecond v spare past kept isKept text paper left top wide high original turn boxX boxY boxW boxH freeAtX freeAtY freeW freeH begins ends tried aside]) rfl (b_e1 rfl b_e0) 1 rfl (by decide) (st2 := [.int (f_X11_pixelAt i1 (x9 + r8.1) (x10 + r8.2)), .ref (a (o+1))]) rfl (fun H locs hw => ?_)
      obtain ⟨x11, ex11, hix11, h⟩ := g_rd_some h
      refine b_iald hx hb hK hw 0 1 rfl (f := v) rfl hix11 ex11 dX11_colorBy_102 ?_
      obtain rfl := Option.some.inj h
      exact b_iret hQ hx hb hr hlk hw rfl dX11_colorBy_103
    refine lv_if_ne (tgt := 34) hx hb dX11_colorBy_22 (by decide) (fun hc22 => ?_) (fun hc22 => ?_)
    · rw [if_neg hc22] at h
      refine lv_aload_n hx hb dX11_colorBy_34 rfl (lv_at hl 0 rfl) ?_
      refine b_get hx hb hT hK hown fl_X11_38 hw 0 0 rfl rfl (v := .ref (a (o+10))) rfl dX11_colorBy_35 ?_
      refine lv_iload_n hx hb dX11_colorBy_38 rfl (lv_at hl 1 rfl) ?_
      obtain ⟨x13, ex13, hix13, h⟩ := g_rd_some h
      refine b_iald hx hb hK hw 0 10 rfl (f := wide) rfl hix13 ex13 dX11_colorBy_39 ?_
      exact hj40_3 x13 _ _ _ hw (lv_sub hl [0, 1, 2, 3, 4] rfl) h
    · rw [if_pos hc22] at h
      refine lv_aload_n hx hb dX11_colorBy_25 rfl (lv_at hl 0 rfl) ?_
      refine b_get hx hb hT hK hown fl_X11_41 hw 0 0 rfl rfl (v := .ref (a (o+11))) rfl dX11_colorBy_26 ?_
      refine lv_iload_n hx hb dX11_colorBy_29 rfl (lv_at hl 1 rfl) ?_
      obtain ⟨x12, ex12, hix12, h⟩ := g_rd_some h
      refine b_iald hx hb hK hw 0 11 rfl (f := high) rfl hix12 ex12 dX11_colorBy_30 ?_
      refine lv_goto (tgt := 40) hx hb dX11_colorBy_31 (by decide) ?_
      exact hj40_3 x12 _ _ _ hw (lv_sub hl [0, 1, 2, 3, 4] rfl) h
  refine lv_if_ne (tgt := 15) hx hb dX11_colorBy_3 (by decide) (fun hc3 => ?_) (fun hc3 => ?_)
  · rw [if_neg hc3] at h
    refine lv_aload_n hx hb dX11_colorBy_15 rfl (lv_at hl 0 rfl) ?_
    refine b_get hx hb hT hK hown fl_X11_41 hw 0 0 rfl rfl (v := .ref (a (o+11))) rfl dX11_colorBy_16 ?_
    refine lv_iload_n hx hb dX11_colorBy_19 rfl (lv_at hl 1 rfl) ?_
    obtain ⟨x15, ex15, hix15, h⟩ := g_rd_some h
    refine b_iald hx hb hK hw 0 11 rfl (f := high) rfl hix15 ex15 dX11_colorBy_20 ?_
    exact hj21_1 x15 _ _ _ hw (lv_sub hl [0, 1, 2, 4, 5] rfl) h
  · rw [if_pos hc3] at h
    refine lv_aload_n hx hb dX11_colorBy_6 rfl (lv_at hl 0 rfl) ?_
    refine b_get hx hb hT hK hown fl_X11_38 hw 0 0 rfl rfl (v := .ref (a (o+10))) rfl dX11_colorBy_7 ?_
    refine lv_iload_n hx hb dX11_colorBy_10 rfl (lv_at hl 1 rfl) ?_
    obtain ⟨x14, ex14, hix14, h⟩ := g_rd_some h
    refine b_iald hx hb hK hw 0 10 rfl (f := wide) rfl hix14 ex14 dX11_colorBy_11 ?_
    refine lv_goto (tgt := 21) hx hb dX11_colorBy_12 (by decide) ?_
    exact hj21_1 x14 _ _ _ hw (lv_sub hl [0, 1, 2, 4, 5] rfl) h
