set_option maxRecDepth 100000 in
set_option maxHeartbeats 4000000 in
theorem c_X11_isOnPage (l : Launch) (D : va_G) (g : Nat → ClassId) (a : Nat → Nat) (o : Nat) (pasts : Int32) (length : Int32) (printed : Int32) (told : Int32) (state : Int64) (backX : Int32) (backY : Int32) (boxes : Int32) (frees : Int32) (bestFree : Int32) (bestTurned : Int32) (bestFirst : Int32) (bestSecond : Int32) (v : (Nat → Int32)) (spare : (Nat → Int32)) (past : (Nat → Int32)) (kept : (Nat → Int32)) (isKept : (Nat → Int32)) (text : (Nat → Int32)) (paper : (Nat → Int32)) (left : (Nat → Int32)) (top : (Nat → Int32)) (wide : (Nat → Int32)) (high : (Nat → Int32)) (original : (Nat → Int32)) (turn : (Nat → Int32)) (boxX : (Nat → Int32)) (boxY : (Nat → Int32)) (boxW : (Nat → Int32)) (boxH : (Nat → Int32)) (freeAtX : (Nat → Int32)) (freeAtY : (Nat → Int32)) (freeW : (Nat → Int32)) (freeH : (Nat → Int32)) (begins : (Nat → Int32)) (ends : (Nat → Int32)) (tried : (Nat → Int32)) (aside : (Nat → Int32)) (i1 : Int32) (i2 : Int32) (i3 : Int32) (u : Int32) (h : f_X11_isOnPage v i1 i2 i3 = some u) : b_Ct l yX11_isOnPage cX11_isOnPage 4 (some .boolean) 2 43 D g [.ref (a o), .int i1, .int i2, .int i3] [k_Model g a o pasts length printed told state backX backY boxes frees bestFree bestTurned bestFirst bestSecond v spare past kept isKept text paper left top wide high original turn boxX boxY boxW boxH freeAtX freeAtY freeW freeH begins ends tried aside] [k_Model g a o pasts length printed told state backX backY boxes frees bestFree bestTurned bestFirst bestSecond v spare past kept isKept text paper left top wide high original turn boxX boxY boxW boxH freeAtX freeAtY freeW freeH begins ends tried aside] (some (.int u)) := by
  refine b_start RX11 (by decide) rfl (Nat.le_of_ble_eq_true rfl) rfl ?_
  intro p e s m args below meth c A ls Q hQ hx hb hr hlk hml hown hT hK hA hw hl
  have hl : lv_has ls 4 [(0, .ref (a o)), (1, .int i1), (2, .int i2), (3, .int i3)] := hl
  unfold f_X11_isOnPage at h
  refine lv_aload_n hx hb dX11_isOnPage_0 rfl (lv_at hl 0 rfl) ?_
  refine lv_iload_n hx hb dX11_isOnPage_1 rfl (lv_at hl 1 rfl) ?_
  obtain ⟨r1, er1, h⟩ := g_cl_some h
  refine b_callV hx hb hml hown hT hK hA hw mk_X11_282 (c_X11_isPage l D g a o pasts length printed told state backX backY boxes frees bestFree bestTurned bestFirst bestSecond v spare past kept isKept text paper left top wide high original turn boxX boxY boxW boxH freeAtX freeAtY freeW freeH begins ends tried aside i1 r1 er1) [0] [] rfl (by decide) 0 0 rfl rfl rfl rfl hl.1 [] rfl (Nat.le_of_ble_eq_true rfl) ⟨Nat.le_of_ble_eq_true rfl, Nat.le_of_ble_eq_true rfl⟩ ⟨Nat.zero_le _, Nat.zero_le _⟩ dX11_isOnPage_2 (wb' := [k_Model g a o pasts length printed told state backX backY boxes frees bestFree bestTurned bestFirst bestSecond v spare past kept isKept text paper left top wide high original turn boxX boxY boxW boxH freeAtX freeAtY freeW freeH begins ends tried aside]) rfl b_e0 1 rfl (by decide) (st2 := [.int r1]) rfl (fun H locs hw => ?_)
  refine lv_if_eq (tgt := 44) hx hb dX11_isOnPage_5 (by decide) (fun hc5 => ?_) (fun hc5 => ?_)
  · rw [if_pos hc5] at h
    refine lv_iconst (v := 0) hx hb dX11_isOnPage_44 (by decide) ?_
    obtain rfl := Option.some.inj h
    exact b_zret hQ hx hb hr hlk (Or.inl rfl) hw rfl dX11_isOnPage_45
  · rw [if_neg hc5] at h
    refine lv_iload_n hx hb dX11_isOnPage_8 rfl (lv_at hl 2 rfl) ?_
    refine lv_iconst (v := 0) hx hb dX11_isOnPage_9 (by decide) ?_
    refine lv_aload_n hx hb dX11_isOnPage_10 rfl (lv_at hl 0 rfl) ?_
    refine b_get hx hb hT hK hown fl_X11_7 hw 0 0 rfl rfl (v := .ref (a (o+1))) rfl dX11_isOnPage_11 ?_
    refine lv_iconst (v := 1) hx hb dX11_isOnPage_14 (by decide) ?_
    obtain ⟨x2, ex2, hix2, h⟩ := g_rd_some h
    refine b_iald hx hb hK hw 0 1 rfl (f := v) rfl hix2 ex2 dX11_isOnPage_15 ?_
    refine lv_iconst (v := 1) hx hb dX11_isOnPage_16 (by decide) ?_
    refine lv_isub hx hb dX11_isOnPage_17 ?_
    refine b_callS hx hb hml hown hT hK hA hw mk_X11_86 (c_X11_in l D g i2 (0 : Int32) (x2 - (1 : Int32))) [] [0] rfl (by decide) rfl hl.1 [] rfl (Nat.le_of_ble_eq_true rfl) ⟨Nat.le_of_ble_eq_true rfl, Nat.le_of_ble_eq_true rfl⟩ ⟨Nat.zero_le _, Nat.zero_le _⟩ dX11_isOnPage_18 (wb' := [k_Model g a o pasts length printed told state backX backY boxes frees bestFree bestTurned bestFirst bestSecond v spare past kept isKept text paper left top wide high original turn boxX boxY boxW boxH freeAtX freeAtY freeW freeH begins ends tried aside]) rfl (b_e1 rfl b_e0) 1 rfl (by decide) (st2 := [.int (f_X11_in i2 (0 : Int32) (x2 - (1 : Int32)))]) rfl (fun H locs hw => ?_)
    refine lv_if_eq (tgt := 44) hx hb dX11_isOnPage_21 (by decide) (fun hc21 => ?_) (fun hc21 => ?_)
    · rw [if_pos hc21] at h
      refine lv_iconst (v := 0) hx hb dX11_isOnPage_44 (by decide) ?_
      obtain rfl := Option.some.inj h
      exact b_zret hQ hx hb hr hlk (Or.inl rfl) hw rfl dX11_isOnPage_45
    · rw [if_neg hc21] at h
      refine lv_iload_n hx hb dX11_isOnPage_24 rfl (lv_at hl 3 rfl) ?_
      refine lv_iconst (v := 0) hx hb dX11_isOnPage_25 (by decide) ?_
      refine lv_aload_n hx hb dX11_isOnPage_26 rfl (lv_at hl 0 rfl) ?_
      refine b_get hx hb hT hK hown fl_X11_7 hw 0 0 rfl rfl (v := .ref (a (o+1))) rfl dX11_isOnPage_27 ?_
      refine lv_iconst (v := 2) hx hb dX11_isOnPage_30 (by decide) ?_
      obtain ⟨x3, ex3, hix3, h⟩ := g_rd_some h
      refine b_iald hx hb hK hw 0 1 rfl (f := v) rfl hix3 ex3 dX11_isOnPage_31 ?_
      refine lv_iconst (v := 1) hx hb dX11_isOnPage_32 (by decide) ?_
      refine lv_isub hx hb dX11_isOnPage_33 ?_
      refine b_callS hx hb hml hown hT hK hA hw mk_X11_86 (c_X11_in l D g i3 (0 : Int32) (x3 - (1 : Int32))) [] [0] rfl (by decide) rfl hl.1 [] rfl (Nat.le_of_ble_eq_true rfl) ⟨Nat.le_of_ble_eq_true rfl, Nat.le_of_ble_eq_true rfl⟩ ⟨Nat.zero_le _, Nat.zero_le _⟩ dX11_isOnPage_34 (wb' := [k_Model g a o pasts length printed told state backX backY boxes frees bestFree bestTurned bestFirst bestSecond v spare past kept isKept text paper left top wide high original turn boxX boxY boxW boxH freeAtX freeAtY freeW freeH begins ends tried aside]) rfl (b_e1 rfl b_e0) 1 rfl (by decide) (st2 := [.int (f_X11_in i3 (0 : Int32) (x3 - (1 : Int32)))]) rfl (fun H locs hw => ?_)
      refine lv_if_eq (tgt := 44) hx hb dX11_isOnPage_37 (by decide) (fun hc37 => ?_) (fun hc37 => ?_)
      · rw [if_pos hc37] at h
        refine lv_iconst (v := 0) hx hb dX11_isOnPage_44 (by decide) ?_
        obtain rfl := Option.some.inj h
        exact b_zret hQ hx hb hr hlk (Or.inl rfl) hw rfl dX11_isOnPage_45
      · rw [if_neg hc37] at h
        refine lv_iconst (v := 1) hx hb dX11_isOnPage_40 (by decide) ?_
        refine lv_goto (tgt := 45) hx hb dX11_isOnPage_41 (by decide) ?_
        obtain rfl := Option.some.inj h
        exact b_zret hQ hx hb hr hlk (Or.inr rfl) hw rfl dX11_isOnPage_45
set_option maxRecDepth 100000 in
set_option maxHeartbeats 4000000 in
theorem c_X11_ownerAt (l : Launch) (D : va_G) (g : Nat → ClassId) (a : Nat → Nat) (o : Nat) (pasts : Int32) (length : Int32) (printed : Int32) (told : Int32) (state : Int64) (backX : Int32) (backY : Int32) (boxes : Int32) (frees : Int32) (bestFree : Int32) (bestTurned : Int32) (bestFirst : Int32) (bestSecond : Int32) (v : (Nat → Int32)) (spare : (Nat → Int32)) (past : (Nat → Int32)) (kept : (Nat → Int32)) (isKept : (Nat → Int32)) (text : (Nat → Int32)) (paper : (Nat → Int32)) (left : (Nat → Int32)) (top : (Nat → Int32)) (wide : (Nat → Int32)) (high : (Nat → Int32)) (original : (Nat → Int32)) (turn : (Nat → Int32)) (boxX : (Nat → Int32)) (boxY : (Nat → Int32)) (boxW : (Nat → Int32)) (boxH : (Nat → Int32)) (freeAtX : (Nat → Int32)) (freeAtY : (Nat → Int32)) (freeW : (Nat → Int32)) (freeH : (Nat → Int32)) (begins : (Nat → Int32)) (ends : (Nat → Int32)) (tried : (Nat → Int32)) (aside : (Nat → Int32)) (i1 : Int32) (i2 : Int32) (i3 : Int32) (u : Int32) (h : f_X11_ownerAt v wide high i1 i2 i3 = some u) : b_Ct l yX11_ownerAt cX11_ownerAt 8 (some .int) 2 42 D g [.ref (a o), .int i1, .int i2, .int i3] [k_Model g a o pasts length printed told state backX backY boxes frees bestFree bestTurned bestFirst bestSecond v spare past kept isKept text paper left top wide high original turn boxX boxY boxW boxH freeAtX freeAtY freeW freeH begins ends tried aside] [k_Model g a o pasts length printed told state backX backY boxes frees bestFree bestTurned bestFirst bestSecond v spare past kept isKept text paper left top wide high original turn boxX boxY boxW boxH freeAtX freeAtY freeW freeH begins ends tried aside] (some (.int u)) := by
  refine b_start RX11 (by decide) rfl (Nat.le_of_ble_eq_true rfl) rfl ?_
  intro p e s m args below meth c A ls Q hQ hx hb hr hlk hml hown hT hK hA hw hl
  have hl : lv_has ls 8 [(0, .ref (a o)), (1, .int i1), (2, .int i2), (3, .int i3)] := hl
  unfold f_X11_ownerAt at h
  refine lv_aload_n hx hb dX11_ownerAt_0 rfl (lv_at hl 0 rfl) ?_
  refine b_get hx hb hT hK hown fl_X11_7 hw 0 0 rfl rfl (v := .ref (a (o+1))) rfl dX11_ownerAt_1 ?_
  refine lv_bipush (v := 6) hx hb dX11_ownerAt_4 (by decide) ?_
  obtain ⟨x1, ex1, hix1, h⟩ := g_rd_some h
  refine b_iald hx hb hK hw 0 1 rfl (f := v) rfl hix1 ex1 dX11_ownerAt_6 ?_
  refine lv_istore (lv' := [(4, .int x1), (0, .ref (a o)), (1, .int i1), (2, .int i2), (3, .int i3)]) hx hb dX11_ownerAt_7 hl (by decide) rfl (fun ls hl => ?_)
  refine lv_iconst (v := 0) hx hb dX11_ownerAt_9 (by decide) ?_
  refine lv_istore (lv' := [(5, .int (0 : Int32)), (4, .int x1), (0, .ref (a o)), (1, .int i1), (2, .int i2), (3, .int i3)]) hx hb dX11_ownerAt_10 hl (by decide) rfl (fun ls hl => ?_)
  have hL12 : ∀ (n : Nat) (x2 : Int32) (H : Heap) (locs : List Loc) (ls : Array Slot), b_Wd D A s.heap H locs [k_Model g a o pasts length printed told state backX backY boxes frees bestFree bestTurned bestFirst bestSecond v spare past kept isKept text paper left top wide high original turn boxX boxY boxW boxH freeAtX freeAtY freeW freeH begins ends tried aside] → lv_has ls 8 [(0, .ref (a o)), (1, .int i1), (2, .int i2), (3, .int i3), (4, .int x1), (5, .int x2)] → f_X11_ownerAt_L12 v wide high i1 i2 i3 x1 n x2 = some u → W p l e (g_rm 2 42) s m args below meth c H locs 0 0 Q (F0 m 12 ls []) := by
    intro n
    induction n with
    | zero =>
      intro x2 H locs ls hw hl h
      cases (show none = some u from h)
    | succ n ih12 =>
      intro x2 H locs ls hw hl h
      rw [f_X11_ownerAt_L12] at h
      refine lv_iload hx hb dX11_ownerAt_12 (lv_at hl 5 rfl) ?_
      refine lv_aload_n hx hb dX11_ownerAt_14 rfl (lv_at hl 0 rfl) ?_
      refine b_get hx hb hT hK hown fl_X11_7 hw 0 0 rfl rfl (v := .ref (a (o+1))) rfl dX11_ownerAt_15 ?_
      refine lv_iconst (v := 0) hx hb dX11_ownerAt_18 (by decide) ?_
      obtain ⟨x3, ex3, hix3, h⟩ := g_rd_some h
      refine b_iald hx hb hK hw 0 1 rfl (f := v) rfl hix3 ex3 dX11_ownerAt_19 ?_
      refine lv_icmp_ge (tgt := 145) hx hb dX11_ownerAt_20 (by decide) (fun hc20 => ?_) (fun hc20 => ?_)
      · rw [if_pos hc20] at h
        refine lv_iconst (v := -1) hx hb dX11_ownerAt_145 (by decide) ?_
        obtain rfl := Option.some.inj h
        exact b_iret hQ hx hb hr hlk hw rfl dX11_ownerAt_146
      · rw [if_neg hc20] at h
        refine lv_aload_n hx hb dX11_ownerAt_23 rfl (lv_at hl 0 rfl) ?_
        refine b_get hx hb hT hK hown fl_X11_7 hw 0 0 rfl rfl (v := .ref (a (o+1))) rfl dX11_ownerAt_24 ?_
        refine lv_iload hx hb dX11_ownerAt_27 (lv_at hl 5 rfl) ?_
        refine lv_bipush (v := 6) hx hb dX11_ownerAt_29 (by decide) ?_
        refine b_callS hx hb hml hown hT hK hA hw mk_X11_94 (c_X11_at l D g x2 (6 : Int32)) [] [0] rfl (by decide) rfl hl.1 [.ref (a (o+1))] rfl (Nat.le_of_ble_eq_true rfl) ⟨Nat.le_of_ble_eq_true rfl, Nat.le_of_ble_eq_true rfl⟩ ⟨Nat.zero_le _, Nat.zero_le _⟩ dX11_ownerAt_31 (wb' := [k_Model g a o pasts length printed told state backX backY boxes frees bestFree bestTurned bestFirst bestSecond v spare past kept isKept text paper left top wide high original turn boxX boxY boxW boxH freeAtX freeAtY freeW freeH begins ends tried aside]) rfl (b_e1 rfl b_e0) 1 rfl (by decide) (st2 := [.int (f_X11_at x2 (6 : Int32)), .ref (a (o+1))]) rfl (fun H locs hw => ?_)
        obtain ⟨x4, ex4, hix4, h⟩ := g_rd_some h
        refine b_iald hx hb hK hw 0 1 rfl (f := v) rfl hix4 ex4 dX11_ownerAt_34 ?_
        refine lv_istore (lv' := [(6, .int x4), (0, .ref (a o)), (1, .int i1), (2, .int i2), (3, .int i3), (4, .int x1), (5, .int x2)]) hx hb dX11_ownerAt_35 hl (by decide) rfl (fun ls hl => ?_)
        refine lv_aload_n hx hb dX11_ownerAt_37 rfl (lv_at hl 1 rfl) ?_
        refine b_get hx hb hT hK hown fl_X11_7 hw 0 0 rfl rfl (v := .ref (a (o+1))) rfl dX11_ownerAt_38 ?_
        refine lv_iload hx hb dX11_ownerAt_41 (lv_at hl 6 rfl) ?_
        refine lv_iconst (v := 3) hx hb dX11_ownerAt_43 (by decide) ?_
        refine b_callS hx hb hml hown hT hK hA hw mk_X11_94 (c_X11_at l D g x2 (3 : Int32)) [] [0] rfl (by decide) rfl hl.1 [.ref (a (o+1))] rfl (Nat.le_of_ble_eq_true rfl) ⟨Nat.le_of_ble_eq_true rfl, Nat.le_of_ble_eq_true rfl⟩ ⟨Nat.zero_le _, Nat.zero_le _⟩ dX11_ownerAt_44 (wb' := [k_Model g a o pasts length printed told state backX backY boxes frees bestFree bestTurned bestFirst bestSecond v spare past kept isKept text paper left top wide high original turn boxX boxY boxW boxH freeAtX freeAtY freeW freeH begins ends tried aside]) rfl (b_e1 rfl b_e0) 1 rfl (by decide) (st2 := [.int (f_X11_at x2 (3 : Int32)), .ref (a (o+1))]) rfl (fun H locs hw => ?_)
        obtain ⟨x5, ex5, hix5, h⟩ := g_rd_some h
        refine b_iald hx hb hK hw 0 1 rfl (f := v) rfl hix5 ex5 dX11_ownerAt_47 ?_
        refine lv_iload_n hx hb dX11_ownerAt_48 rfl (lv_at hl 2 rfl) ?_
        obtain ⟨j93_6, ej93_6, h⟩ := g_jn_nm h
        have hj93_6 : ∀ (x6 : Int32) (H : Heap) (locs : List Loc) (ls : Array Slot), b_Wd D A s.heap H locs [k_Model g a o pasts length printed told state backX backY boxes frees bestFree bestTurned bestFirst bestSecond v spare past kept isKept text paper left top wide high original turn boxX boxY boxW boxH freeAtX freeAtY freeW freeH begins ends tried aside] → lv_has ls 8 [(0, .ref (a o)), (1, .int i1), (2, .int i2), (3, .int i3), (4, .int x1), (5, .int x2), (6, .int x4)] → j93_6 x6 = some u → W p l e (g_rm 2 42) s m args below meth c H locs 0 0 Q (F0 m 93 ls [.int x6]) := by
          intro x6 H locs ls hw hl h
          subst ej93_6
          dsimp only at h
          refine lv_istore (lv' := [(7, .int x6), (0, .ref (a o)), (1, .int i1), (2, .int i2), (3, .int i3), (4, .int x1), (5, .int x2), (6, .int x4)]) hx hb dX11_ownerAt_93 hl (by decide) rfl (fun ls hl => ?_)
          refine lv_iload hx hb dX11_ownerAt_95 (lv_at hl 0 rfl) ?_
          obtain ⟨j139_7, ej139_7, h⟩ := g_jn_nm h
          have hj139_7 : ∀ (H : Heap) (locs : List Loc) (ls : Array Slot), b_Wd D A s.heap H locs [k_Model g a o pasts length printed told state backX backY boxes frees bestFree bestTurned bestFirst bestSecond v spare past kept isKept text paper left top wide high original turn boxX boxY boxW boxH freeAtX freeAtY freeW freeH begins ends tried aside] → lv_has ls 8 [(0, .ref (a o)), (1, .int i1), (2, .int i2), (3, .int i3), (4, .int x1), (5, .int x2)] → j139_7 = some u → W p l e (g_rm 2 42) s m args below meth c H locs 0 0 Q (F0 m 139 ls []) := by
            intro  H locs ls hw hl h
            subst ej139_7
            obtain ⟨x9, ex9, h⟩ := g_bd_nm h
            refine lv_iinc (v := x9) (lv' := [(5, .int x9), (0, .ref (a o)), (1, .int i1), (2, .int i2), (3, .int i3), (4, .int x1)]) hx hb dX11_ownerAt_139 hl (k := 5) rfl (by rw [ex9]; rfl) (by decide) rfl (fun ls hl => ?_)
            refine lv_goto (tgt := 12) hx hb dX11_ownerAt_142 (by decide) ?_
            exact ih12 x9 _ _ _ hw (lv_sub hl [1, 2, 3, 4, 5, 0] rfl) h
          refine lv_if_eq (tgt := 139) hx hb dX11_ownerAt_97 (by decide) (fun hc97 => ?_) (fun hc97 => ?_)
          · rw [if_pos hc97] at h
            exact hj139_7  _ _ _ hw (lv_sub hl [1, 2, 3, 4, 5, 6] rfl) h
          · rw [if_neg hc97] at h
            refine lv_iload_n hx hb dX11_ownerAt_100 rfl (lv_at hl 4 rfl) ?_
            refine lv_aload_n hx hb dX11_ownerAt_101 rfl (lv_at hl 1 rfl) ?_
            refine lv_iload hx hb dX11_ownerAt_102 (lv_at hl 6 rfl) ?_
            obtain ⟨r10, er10, h⟩ := g_cl_some h
            refine b_callV hx hb hml hown hT hK hA hw mk_X11_276 (c_X11_rowOf l D g a o pasts length printed told state backX backY boxes frees bestFree bestTurned bestFirst bestSecond v spare past kept isKept text paper left top wide high original turn boxX boxY boxW boxH freeAtX freeAtY freeW freeH begins ends tried aside x2 r10 er10) [0] [] rfl (by decide) 0 0 rfl rfl rfl rfl hl.1 [.int i3] rfl (Nat.le_of_ble_eq_true rfl) ⟨Nat.le_of_ble_eq_true rfl, Nat.le_of_ble_eq_true rfl⟩ ⟨Nat.zero_le _, Nat.zero_le _⟩ dX11_ownerAt_104 (wb' := [k_Model g a o pasts length printed told state backX backY boxes frees bestFree bestTurned bestFirst bestSecond v spare past kept isKept text paper left top wide high original turn boxX boxY boxW boxH freeAtX freeAtY freeW freeH begins ends tried aside]) rfl b_e0 1 rfl (by decide) (st2 := [.int r10, .int i3]) rfl (fun H locs hw => ?_)
            refine lv_iload hx hb dX11_ownerAt_107 (lv_at hl 5 rfl) ?_
            refine lv_isub hx hb dX11_ownerAt_109 ?_
            refine lv_aload_n hx hb dX11_ownerAt_110 rfl (lv_at hl 1 rfl) ?_
            refine lv_iload hx hb dX11_ownerAt_111 (lv_at hl 6 rfl) ?_
            obtain ⟨r11, er11, h⟩ := g_cl_some h
            refine b_callV hx hb hml hown hT hK hA hw mk_X11_276 (c_X11_rowOf l D g a o pasts length printed told state backX backY boxes frees bestFree bestTurned bestFirst bestSecond v spare past kept isKept text paper left top wide high original turn boxX boxY boxW boxH freeAtX freeAtY freeW freeH begins ends tried aside x2 r11 er11) [0] [] rfl (by decide) 0 0 rfl rfl rfl rfl hl.1 [.int (r10 - x1), .int i3] rfl (Nat.le_of_ble_eq_true rfl) ⟨Nat.le_of_ble_eq_true rfl, Nat.le_of_ble_eq_true rfl⟩ ⟨Nat.zero_le _, Nat.zero_le _⟩ dX11_ownerAt_113 (wb' := [k_Model g a o pasts length printed told state backX backY boxes frees bestFree bestTurned bestFirst bestSecond v spare past kept isKept text paper left top wide high original turn boxX boxY boxW boxH freeAtX freeAtY freeW freeH begins ends tried aside]) rfl b_e0 1 rfl (by decide) (st2 := [.int r11, .int (r10 - x1), .int i3]) rfl (fun H locs hw => ?_)
            refine lv_aload_n hx hb dX11_ownerAt_116 rfl (lv_at hl 1 rfl) ?_
            refine lv_iload hx hb dX11_ownerAt_117 (lv_at hl 6 rfl) ?_
            refine lv_iload hx hb dX11_ownerAt_119 (lv_at hl 7 rfl) ?_
            obtain ⟨r12, er12, h⟩ := g_cl_some h
            refine b_callV hx hb hml hown hT hK hA hw mk_X11_182 (c_X11_imageHeight l D g a o pasts length printed told state backX backY boxes frees bestFree bestTurned bestFirst bestSecond v spare past kept isKept text paper left top wide high original turn boxX boxY boxW boxH freeAtX freeAtY freeW freeH begins ends tried aside x2 x4 r12 er12) [0] [] rfl (by decide) 0 0 rfl rfl rfl rfl hl.1 [.int r11, .int (r10 - x1), .int i3] rfl (Nat.le_of_ble_eq_true rfl) ⟨Nat.le_of_ble_eq_true rfl, Nat.le_of_ble_eq_true rfl⟩ ⟨Nat.zero_le _, Nat.zero_le _⟩ dX11_ownerAt_121 (wb' := [k_Model g a o pasts length printed told state backX backY boxes frees bestFree bestTurned bestFirst bestSecond v spare past kept isKept text paper left top wide high original turn boxX boxY boxW boxH freeAtX freeAtY freeW freeH begins ends tried aside]) rfl b_e0 1 rfl (by decide) (st2 := [.int r12, .int r11, .int (r10 - x1), .int i3]) rfl (fun H locs hw => ?_)
            refine lv_iadd hx hb dX11_ownerAt_124 ?_
            refine lv_iload hx hb dX11_ownerAt_125 (lv_at hl 5 rfl) ?_
            refine lv_iadd hx hb dX11_ownerAt_127 ?_
            refine lv_iconst (v := 1) hx hb dX11_ownerAt_128 (by decide) ?_
            refine lv_isub hx hb dX11_ownerAt_129 ?_
            refine b_callS hx hb hml hown hT hK hA hw mk_X11_86 (c_X11_in l D g i3 (r10 - x1) (((r11 + r12) + x1) - (1 : Int32))) [] [0] rfl (by decide) rfl hl.1 [] rfl (Nat.le_of_ble_eq_true rfl) ⟨Nat.le_of_ble_eq_true rfl, Nat.le_of_ble_eq_true rfl⟩ ⟨Nat.zero_le _, Nat.zero_le _⟩ dX11_ownerAt_130 (wb' := [k_Model g a o pasts length printed told state backX backY boxes frees bestFree bestTurned bestFirst bestSecond v spare past kept isKept text paper left top wide high original turn boxX boxY boxW boxH freeAtX freeAtY freeW freeH begins ends tried aside]) rfl (b_e1 rfl b_e0) 1 rfl (by decide) (st2 := [.int (f_X11_in i3 (r10 - x1) (((r11 + r12) + x1) - (1 : Int32)))]) rfl (fun H locs hw => ?_)
            refine lv_if_eq (tgt := 139) hx hb dX11_ownerAt_133 (by decide) (fun hc133 => ?_) (fun hc133 => ?_)
            · rw [if_pos hc133] at h
              exact hj139_7  _ _ _ hw (lv_sub hl [1, 2, 3, 4, 5, 6] rfl) h
            · rw [if_neg hc133] at h
              refine lv_iload hx hb dX11_ownerAt_136 (lv_at hl 6 rfl) ?_
              obtain rfl := Option.some.inj h
              exact b_iret hQ hx hb hr hlk hw rfl dX11_ownerAt_138
        obtain ⟨j92_12, ej92_12, h⟩ := g_jn_nm h
        have hj92_12 : ∀ (H : Heap) (locs : List Loc) (ls : Array Slot), b_Wd D A s.heap H locs [k_Model g a o pasts length printed told state backX backY boxes frees bestFree bestTurned bestFirst bestSecond v spare past kept isKept text paper left top wide high original turn boxX boxY boxW boxH freeAtX freeAtY freeW freeH begins ends tried aside] → lv_has ls 8 [(0, .ref (a o)), (1, .int i1), (2, .int i2), (3, .int i3), (4, .int x1), (5, .int x2), (6, .int x4)] → j92_12 = some u → W p l e (g_rm 2 42) s m args below meth c H locs 0 0 Q (F0 m 92 ls []) := by
          intro  H locs ls hw hl h
          subst ej92_12
          refine lv_iconst (v := 0) hx hb dX11_ownerAt_92 (by decide) ?_
          exact hj93_6 (0 : Int32) _ _ _ hw (lv_sub hl [0, 1, 2, 3, 4, 5, 6] rfl) h
        refine lv_icmp_ne (tgt := 92) hx hb dX11_ownerAt_49 (by decide) (fun hc49 => ?_) (fun hc49 => ?_)
        · rw [if_neg hc49] at h
          exact hj92_12  _ _ _ hw (lv_sub hl [1, 2, 3, 4, 5, 6, 0] rfl) h
        · rw [if_pos hc49] at h
          refine lv_iload_n hx hb dX11_ownerAt_52 rfl (lv_at hl 3 rfl) ?_
          refine lv_aload_n hx hb dX11_ownerAt_53 rfl (lv_at hl 1 rfl) ?_
          refine lv_iload hx hb dX11_ownerAt_54 (lv_at hl 6 rfl) ?_
          obtain ⟨r14, er14, h⟩ := g_cl_some h
          refine b_callV hx hb hml hown hT hK hA hw mk_X11_273 (c_X11_columnOf l D g a o pasts length printed told state backX backY boxes frees bestFree bestTurned bestFirst bestSecond v spare past kept isKept text paper left top wide high original turn boxX boxY boxW boxH freeAtX freeAtY freeW freeH begins ends tried aside x2 r14 er14) [0] [] rfl (by decide) 0 0 rfl rfl rfl rfl hl.1 [.int i2] rfl (Nat.le_of_ble_eq_true rfl) ⟨Nat.le_of_ble_eq_true rfl, Nat.le_of_ble_eq_true rfl⟩ ⟨Nat.zero_le _, Nat.zero_le _⟩ dX11_ownerAt_56 (wb' := [k_Model g a o pasts length printed told state backX backY boxes frees bestFree bestTurned bestFirst bestSecond v spare past kept isKept text paper left top wide high original turn boxX boxY boxW boxH freeAtX freeAtY freeW freeH begins ends tried aside]) rfl b_e0 1 rfl (by decide) (st2 := [.int r14, .int i2]) rfl (fun H locs hw => ?_)
          refine lv_iload hx hb dX11_ownerAt_59 (lv_at hl 5 rfl) ?_
          refine lv_isub hx hb dX11_ownerAt_61 ?_
          refine lv_aload_n hx hb dX11_ownerAt_62 rfl (lv_at hl 1 rfl) ?_
          refine lv_iload hx hb dX11_ownerAt_63 (lv_at hl 6 rfl) ?_
          obtain ⟨r15, er15, h⟩ := g_cl_some h
          refine b_callV hx hb hml hown hT hK hA hw mk_X11_273 (c_X11_columnOf l D g a o pasts length printed told state backX backY boxes frees bestFree bestTurned bestFirst bestSecond v spare past kept isKept text paper left top wide high original turn boxX boxY boxW boxH freeAtX freeAtY freeW freeH begins ends tried aside x2 r15 er15) [0] [] rfl (by decide) 0 0 rfl rfl rfl rfl hl.1 [.int (r14 - x1), .int i2] rfl (Nat.le_of_ble_eq_true rfl) ⟨Nat.le_of_ble_eq_true rfl, Nat.le_of_ble_eq_true rfl⟩ ⟨Nat.zero_le _, Nat.zero_le _⟩ dX11_ownerAt_65 (wb' := [k_Model g a o pasts length printed told state backX backY boxes frees bestFree bestTurned bestFirst bestSecond v spare past kept isKept text paper left top wide high original turn boxX boxY boxW boxH freeAtX freeAtY freeW freeH begins ends tried aside]) rfl b_e0 1 rfl (by decide) (st2 := [.int r15, .int (r14 - x1), .int i2]) rfl (fun H locs hw => ?_)
          refine lv_aload_n hx hb dX11_ownerAt_68 rfl (lv_at hl 1 rfl) ?_
          refine lv_iload hx hb dX11_ownerAt_69 (lv_at hl 6 rfl) ?_
          refine lv_iload hx hb dX11_ownerAt_71 (lv_at hl 0 rfl) ?_
          obtain ⟨r16, er16, h⟩ := g_cl_some h
          refine b_callV hx hb hml hown hT hK hA hw mk_X11_179 (c_X11_imageWidth l D g a o pasts length printed told state backX backY boxes frees bestFree bestTurned bestFirst bestSecond v spare past kept isKept text paper left top wide high original turn boxX boxY boxW boxH freeAtX freeAtY freeW freeH begins ends tried aside x2 x4 r16 er16) [0] [] rfl (by decide) 0 0 rfl rfl rfl rfl hl.1 [.int r15, .int (r14 - x1), .int i2] rfl (Nat.le_of_ble_eq_true rfl) ⟨Nat.le_of_ble_eq_true rfl, Nat.le_of_ble_eq_true rfl⟩ ⟨Nat.zero_le _, Nat.zero_le _⟩ dX11_ownerAt_73 (wb' := [k_Model g a o pasts length printed told state backX backY boxes frees bestFree bestTurned bestFirst bestSecond v spare past kept isKept text paper left top wide high original turn boxX boxY boxW boxH freeAtX freeAtY freeW freeH begins ends tried aside]) rfl b_e0 1 rfl (by decide) (st2 := [.int r16, .int r15, .int (r14 - x1), .int i2]) rfl (fun H locs hw => ?_)
          refine lv_iadd hx hb dX11_ownerAt_76 ?_
          refine lv_iload hx hb dX11_ownerAt_77 (lv_at hl 5 rfl) ?_
          refine lv_iadd hx hb dX11_ownerAt_79 ?_
          refine lv_iconst (v := 1) hx hb dX11_ownerAt_80 (by decide) ?_
          refine lv_isub hx hb dX11_ownerAt_81 ?_
          refine b_callS hx hb hml hown hT hK hA hw mk_X11_86 (c_X11_in l D g i2 (r14 - x1) (((r15 + r16) + x1) - (1 : Int32))) [] [0] rfl (by decide) rfl hl.1 [] rfl (Nat.le_of_ble_eq_true rfl) ⟨Nat.le_of_ble_eq_true rfl, Nat.le_of_ble_eq_true rfl⟩ ⟨Nat.zero_le _, Nat.zero_le _⟩ dX11_ownerAt_82 (wb' := [k_Model g a o pasts length printed told state backX backY boxes frees bestFree bestTurned bestFirst bestSecond v spare past kept isKept text paper left top wide high original turn boxX boxY boxW boxH freeAtX freeAtY freeW freeH begins ends tried aside]) rfl (b_e1 rfl b_e0) 1 rfl (by decide) (st2 := [.int (f_X11_in i2 (r14 - x1) (((r15 + r16) + x1) - (1 : Int32)))]) rfl (fun H locs hw => ?_)
          refine lv_if_eq (tgt := 92) hx hb dX11_ownerAt_85 (by decide) (fun hc85 => ?_) (fun hc85 => ?_)
          · rw [if_pos hc85] at h
            exact hj92_12  _ _ _ hw (lv_sub hl [1, 2, 3, 4, 5, 6, 0] rfl) h
          · rw [if_neg hc85] at h
            refine lv_iconst (v := 1) hx hb dX11_ownerAt_88 (by decide) ?_
            refine lv_goto (tgt := 93) hx hb dX11_ownerAt_89 (by decide) ?_
            exact hj93_6 (1 : Int32) _ _ _ hw (lv_sub hl [1, 2, 3, 4, 5, 6, 0] rfl) h
  exact hL12 g_fuel (0 : Int32) _ _ _ hw (lv_sub hl [2, 3, 4, 5, 1, 0] rfl) h
set_option maxRecDepth 100000 in
set_option maxHeartbeats 4000000 in
theorem c_X11_held (l : Launch) (D : va_G) (g : Nat → ClassId) (i1 : Int32) (i2 : Int32) : b_Ct l yX11_held cX11_held 2 (some .int) 0 0 D g [.int i1, .int i2] ([] : List va_W) ([] : List va_W) (some (.int (f_X11_held i1 i2))) := by
  refine b_start RX11 (by decide) rfl (Nat.le_of_ble_eq_true rfl) rfl ?_
  intro p e s m args below meth c A ls Q hQ hx hb hr hlk hml hown hT hK hA hw hl
  have hl : lv_has ls 2 [(0, .int i1), (1, .int i2)] := hl
  generalize h : f_X11_held i1 i2 = u at hQ
  unfold f_X11_held at h
  refine lv_iload_n hx hb dX11_held_0 rfl (lv_at hl 0 rfl) ?_
  refine lv_if_ge (tgt := 8) hx hb dX11_held_1 (by decide) (fun hc1 => ?_) (fun hc1 => ?_)
  · rw [if_pos hc1] at h
    refine lv_iload_n hx hb dX11_held_8 rfl (lv_at hl 0 rfl) ?_
    refine lv_iload_n hx hb dX11_held_9 rfl (lv_at hl 1 rfl) ?_
    refine lv_icmp_le (tgt := 17) hx hb dX11_held_10 (by decide) (fun hc10 => ?_) (fun hc10 => ?_)
    · rw [if_pos hc10] at h
      refine lv_iload_n hx hb dX11_held_17 rfl (lv_at hl 0 rfl) ?_
      obtain rfl := h
      exact b_iret hQ hx hb hr hlk hw rfl dX11_held_18
    · rw [if_neg hc10] at h
      refine lv_iload_n hx hb dX11_held_13 rfl (lv_at hl 1 rfl) ?_
      refine lv_goto (tgt := 18) hx hb dX11_held_14 (by decide) ?_
      obtain rfl := h
      exact b_iret hQ hx hb hr hlk hw rfl dX11_held_18
  · rw [if_neg hc1] at h
    refine lv_iconst (v := 0) hx hb dX11_held_4 (by decide) ?_
    refine lv_goto (tgt := 18) hx hb dX11_held_5 (by decide) ?_
    obtain rfl := h
    exact b_iret hQ hx hb hr hlk hw rfl dX11_held_18
set_option maxRecDepth 100000 in
set_option maxHeartbeats 4000000 in
theorem c_X11_colorAt (l : Launch) (D : va_G) (g : Nat → ClassId) (a : Nat → Nat) (o : Nat) (pasts : Int32) (length : Int32) (printed : Int32) (told : Int32) (state : Int64) (backX : Int32) (backY : Int32) (boxes : Int32) (frees : Int32) (bestFree : Int32) (bestTurned : Int32) (bestFirst : Int32) (bestSecond : Int32) (v : (Nat → Int32)) (spare : (Nat → Int32)) (past : (Nat → Int32)) (kept : (Nat → Int32)) (isKept : (Nat → Int32)) (text : (Nat → Int32)) (paper : (Nat → Int32)) (left : (Nat → Int32)) (top : (Nat → Int32)) (wide : (Nat → Int32)) (high : (Nat → Int32)) (original : (Nat → Int32)) (turn : (Nat → Int32)) (boxX : (Nat → Int32)) (boxY : (Nat → Int32)) (boxW : (Nat → Int32)) (boxH : (Nat → Int32)) (freeAtX : (Nat → Int32)) (freeAtY : (Nat → Int32)) (freeW : (Nat → Int32)) (freeH : (Nat → Int32)) (begins : (Nat → Int32)) (ends : (Nat → Int32)) (tried : (Nat → Int32)) (aside : (Nat → Int32)) (i1 : Int32) (i2 : Int32) (i3 : Int32) (u : Int32 × Int32 × Int32) (h : f_X11_colorAt backX backY v left top wide high i1 i2 i3 = some u) : b_Ct l yX11_colorAt cX11_colorAt 8 (some .int) 3 69 D g [.ref (a o), .int i1, .int i2, .int i3] [k_Model g a o pasts length printed told state backX backY boxes frees bestFree bestTurned bestFirst bestSecond v spare past kept isKept text paper left top wide high original turn boxX boxY boxW boxH freeAtX freeAtY freeW freeH begins ends tried aside] [k_Model g a o pasts length printed told state u.2.1 u.2.2 boxes frees bestFree bestTurned bestFirst bestSecond v spare past kept isKept text paper left top wide high original turn boxX boxY boxW boxH freeAtX freeAtY freeW freeH begins ends tried aside] (some (.int u.1)) := by
  refine b_start RX11 (by decide) rfl (Nat.le_of_ble_eq_true rfl) rfl ?_
  intro p e s m args below meth c A ls Q hQ hx hb hr hlk hml hown hT hK hA hw hl
  have hl : lv_has ls 8 [(0, .ref (a o)), (1, .int i1), (2, .int i2), (3, .int i3)] := hl
  unfold f_X11_colorAt at h
  refine lv_aload_n hx hb dX11_colorAt_0 rfl (lv_at hl 0 rfl) ?_
  refine lv_iload_n hx hb dX11_colorAt_1 rfl (lv_at hl 1 rfl) ?_
  refine lv_iload_n hx hb dX11_colorAt_2 rfl (lv_at hl 2 rfl) ?_
  refine lv_iload_n hx hb dX11_colorAt_3 rfl (lv_at hl 3 rfl) ?_
  obtain ⟨r1, er1, h⟩ := g_cl_some h
  refine b_callV hx hb hml hown hT hK hA hw mk_X11_285 (c_X11_ownerAt l D g a o pasts length printed told state backX backY boxes frees bestFree bestTurned bestFirst bestSecond v spare past kept isKept text paper left top wide high original turn boxX boxY boxW boxH freeAtX freeAtY freeW freeH begins ends tried aside i1 i2 i3 r1 er1) [0] [] rfl (by decide) 0 0 rfl rfl rfl rfl hl.1 [] rfl (Nat.le_of_ble_eq_true rfl) ⟨Nat.le_of_ble_eq_true rfl, Nat.le_of_ble_eq_true rfl⟩ ⟨Nat.zero_le _, Nat.zero_le _⟩ dX11_colorAt_4 (wb' := [k_Model g a o pasts length printed told state backX backY boxes frees bestFree bestTurned bestFirst bestSecond v spare past kept isKept text paper left top wide high original turn boxX boxY boxW boxH freeAtX freeAtY freeW freeH begins ends tried aside]) rfl b_e0 1 rfl (by decide) (st2 := [.int r1]) rfl (fun H locs hw => ?_)
  refine lv_istore (lv' := [(4, .int r1), (0, .ref (a o)), (1, .int i1), (2, .int i2), (3, .int i3)]) hx hb dX11_colorAt_7 hl (by decide) rfl (fun ls hl => ?_)
  refine lv_iload hx hb dX11_colorAt_9 (lv_at hl 0 rfl) ?_
  refine lv_if_ge (tgt := 16) hx hb dX11_colorAt_11 (by decide) (fun hc11 => ?_) (fun hc11 => ?_)
  · rw [if_pos hc11] at h
    refine lv_aload_n hx hb dX11_colorAt_16 rfl (lv_at hl 1 rfl) ?_
    refine b_get hx hb hT hK hown fl_X11_7 hw 0 0 rfl rfl (v := .ref (a (o+1))) rfl dX11_colorAt_17 ?_
    refine lv_iload hx hb dX11_colorAt_20 (lv_at hl 0 rfl) ?_
    refine lv_bipush (v := 6) hx hb dX11_colorAt_22 (by decide) ?_
    refine b_callS hx hb hml hown hT hK hA hw mk_X11_94 (c_X11_at l D g r1 (6 : Int32)) [] [0] rfl (by decide) rfl hl.1 [.ref (a (o+1))] rfl (Nat.le_of_ble_eq_true rfl) ⟨Nat.le_of_ble_eq_true rfl, Nat.le_of_ble_eq_true rfl⟩ ⟨Nat.zero_le _, Nat.zero_le _⟩ dX11_colorAt_24 (wb' := [k_Model g a o pasts length printed told state backX backY boxes frees bestFree bestTurned bestFirst bestSecond v spare past kept isKept text paper left top wide high original turn boxX boxY boxW boxH freeAtX freeAtY freeW freeH begins ends tried aside]) rfl (b_e1 rfl b_e0) 1 rfl (by decide) (st2 := [.int (f_X11_at r1 (6 : Int32)), .ref (a (o+1))]) rfl (fun H locs hw => ?_)
    obtain ⟨x2, ex2, hix2, h⟩ := g_rd_some h
    refine b_iald hx hb hK hw 0 1 rfl (f := v) rfl hix2 ex2 dX11_colorAt_27 ?_
    refine lv_istore (lv' := [(5, .int x2), (4, .int r1), (0, .ref (a o)), (1, .int i1), (2, .int i2), (3, .int i3)]) hx hb dX11_colorAt_28 hl (by decide) rfl (fun ls hl => ?_)
    refine lv_iload_n hx hb dX11_colorAt_30 rfl (lv_at hl 4 rfl) ?_
    refine lv_aload_n hx hb dX11_colorAt_31 rfl (lv_at hl 2 rfl) ?_
    refine lv_iload hx hb dX11_colorAt_32 (lv_at hl 1 rfl) ?_
    obtain ⟨r3, er3, h⟩ := g_cl_some h
    refine b_callV hx hb hml hown hT hK hA hw mk_X11_273 (c_X11_columnOf l D g a o pasts length printed told state backX backY boxes frees bestFree bestTurned bestFirst bestSecond v spare past kept isKept text paper left top wide high original turn boxX boxY boxW boxH freeAtX freeAtY freeW freeH begins ends tried aside r1 r3 er3) [0] [] rfl (by decide) 0 0 rfl rfl rfl rfl hl.1 [.int i2] rfl (Nat.le_of_ble_eq_true rfl) ⟨Nat.le_of_ble_eq_true rfl, Nat.le_of_ble_eq_true rfl⟩ ⟨Nat.zero_le _, Nat.zero_le _⟩ dX11_colorAt_34 (wb' := [k_Model g a o pasts length printed told state backX backY boxes frees bestFree bestTurned bestFirst bestSecond v spare past kept isKept text paper left top wide high original turn boxX boxY boxW boxH freeAtX freeAtY freeW freeH begins ends tried aside]) rfl b_e0 1 rfl (by decide) (st2 := [.int r3, .int i2]) rfl (fun H locs hw => ?_)
    refine lv_isub hx hb dX11_colorAt_37 ?_
    refine lv_aload_n hx hb dX11_colorAt_38 rfl (lv_at hl 2 rfl) ?_
    refine lv_iload hx hb dX11_colorAt_39 (lv_at hl 1 rfl) ?_
    refine lv_iload hx hb dX11_colorAt_41 (lv_at hl 0 rfl) ?_
    obtain ⟨r4, er4, h⟩ := g_cl_some h
    refine b_callV hx hb hml hown hT hK hA hw mk_X11_179 (c_X11_imageWidth l D g a o pasts length printed told state backX backY boxes frees bestFree bestTurned bestFirst bestSecond v spare past kept isKept text paper left top wide high original turn boxX boxY boxW boxH freeAtX freeAtY freeW freeH begins ends tried aside r1 x2 r4 er4) [0] [] rfl (by decide) 0 0 rfl rfl rfl rfl hl.1 [.int (i2 - r3)] rfl (Nat.le_of_ble_eq_true rfl) ⟨Nat.le_of_ble_eq_true rfl, Nat.le_of_ble_eq_true rfl⟩ ⟨Nat.zero_le _, Nat.zero_le _⟩ dX11_colorAt_43 (wb' := [k_Model g a o pasts length printed told state backX backY boxes frees bestFree bestTurned bestFirst bestSecond v spare past kept isKept text paper left top wide high original turn boxX boxY boxW boxH freeAtX freeAtY freeW freeH begins ends tried aside]) rfl b_e0 1 rfl (by decide) (st2 := [.int r4, .int (i2 - r3)]) rfl (fun H locs hw => ?_)
    refine lv_iconst (v := 1) hx hb dX11_colorAt_46 (by decide) ?_
    refine lv_isub hx hb dX11_colorAt_47 ?_
    refine b_callS hx hb hml hown hT hK hA hw mk_X11_288 (c_X11_held l D g (i2 - r3) (r4 - (1 : Int32))) [] [0] rfl (by decide) rfl hl.1 [] rfl (Nat.le_of_ble_eq_true rfl) ⟨Nat.le_of_ble_eq_true rfl, Nat.le_of_ble_eq_true rfl⟩ ⟨Nat.zero_le _, Nat.zero_le _⟩ dX11_colorAt_48 (wb' := [k_Model g a o pasts length printed told state backX backY boxes frees bestFree bestTurned bestFirst bestSecond v spare past kept isKept text paper left top wide high original turn boxX boxY boxW boxH freeAtX freeAtY freeW freeH begins ends tried aside]) rfl (b_e1 rfl b_e0) 1 rfl (by decide) (st2 := [.int (f_X11_held (i2 - r3) (r4 - (1 : Int32)))]) rfl (fun H locs hw => ?_)
    obtain ⟨x5, ex5, h⟩ := g_bd_nm h
    refine g_topi ex5 ?_
    refine lv_istore (lv' := [(6, .int x5), (5, .int x2), (4, .int r1), (0, .ref (a o)), (1, .int i1), (2, .int i2), (3, .int i3)]) hx hb dX11_colorAt_51 hl (by decide) rfl (fun ls hl => ?_)
    refine lv_iload_n hx hb dX11_colorAt_53 rfl (lv_at hl 6 rfl) ?_
    refine lv_aload_n hx hb dX11_colorAt_54 rfl (lv_at hl 3 rfl) ?_
    refine lv_iload hx hb dX11_colorAt_55 (lv_at hl 2 rfl) ?_
    obtain ⟨r6, er6, h⟩ := g_cl_some h
    refine b_callV hx hb hml hown hT hK hA hw mk_X11_276 (c_X11_rowOf l D g a o pasts length printed told state backX backY boxes frees bestFree bestTurned bestFirst bestSecond v spare past kept isKept text paper left top wide high original turn boxX boxY boxW boxH freeAtX freeAtY freeW freeH begins ends tried aside r1 r6 er6) [0] [] rfl (by decide) 0 0 rfl rfl rfl rfl hl.1 [.int i3] rfl (Nat.le_of_ble_eq_true rfl) ⟨Nat.le_of_ble_eq_true rfl, Nat.le_of_ble_eq_true rfl⟩ ⟨Nat.zero_le _, Nat.zero_le _⟩ dX11_colorAt_57 (wb' := [k_Model g a o pasts length printed told state backX backY boxes frees bestFree bestTurned bestFirst bestSecond v spare past kept isKept text paper left top wide high original turn boxX boxY boxW boxH freeAtX freeAtY freeW freeH begins ends tried aside]) rfl b_e0 1 rfl (by decide) (st2 := [.int r6, .int i3]) rfl (fun H locs hw => ?_)
    refine lv_isub hx hb dX11_colorAt_60 ?_
    refine lv_aload_n hx hb dX11_colorAt_61 rfl (lv_at hl 3 rfl) ?_
    refine lv_iload hx hb dX11_colorAt_62 (lv_at hl 2 rfl) ?_
    refine lv_iload hx hb dX11_colorAt_64 (lv_at hl 1 rfl) ?_
    obtain ⟨r7, er7, h⟩ := g_cl_some h
    refine b_callV hx hb hml hown hT hK hA hw mk_X11_182 (c_X11_imageHeight l D g a o pasts length printed told state backX backY boxes frees bestFree bestTurned bestFirst bestSecond v spare past kept isKept text paper left top wide high original turn boxX boxY boxW boxH freeAtX freeAtY freeW freeH begins ends tried aside r1 x2 r7 er7) [0] [] rfl (by decide) 0 0 rfl rfl rfl rfl hl.1 [.int (i3 - r6)] rfl (Nat.le_of_ble_eq_true rfl) ⟨Nat.le_of_ble_eq_true rfl, Nat.le_of_ble_eq_true rfl⟩ ⟨Nat.zero_le _, Nat.zero_le _⟩ dX11_colorAt_66 (wb' := [k_Model g a o pasts length printed told state backX backY boxes frees bestFree bestTurned bestFirst bestSecond v spare past kept isKept text paper left top wide high original turn boxX boxY boxW boxH freeAtX freeAtY freeW freeH begins ends tried aside]) rfl b_e0 1 rfl (by decide) (st2 := [.int r7, .int (i3 - r6)]) rfl (fun H locs hw => ?_)
    refine lv_iconst (v := 1) hx hb dX11_colorAt_69 (by decide) ?_
    refine lv_isub hx hb dX11_colorAt_70 ?_
    refine b_callS hx hb hml hown hT hK hA hw mk_X11_288 (c_X11_held l D g (i3 - r6) (r7 - (1 : Int32))) [] [0] rfl (by decide) rfl hl.1 [] rfl (Nat.le_of_ble_eq_true rfl) ⟨Nat.le_of_ble_eq_true rfl, Nat.le_of_ble_eq_true rfl⟩ ⟨Nat.zero_le _, Nat.zero_le _⟩ dX11_colorAt_71 (wb' := [k_Model g a o pasts length printed told state backX backY boxes frees bestFree bestTurned bestFirst bestSecond v spare past kept isKept text paper left top wide high original turn boxX boxY boxW boxH freeAtX freeAtY freeW freeH begins ends tried aside]) rfl (b_e1 rfl b_e0) 1 rfl (by decide) (st2 := [.int (f_X11_held (i3 - r6) (r7 - (1 : Int32)))]) rfl (fun H locs hw => ?_)
    obtain ⟨x8, ex8, h⟩ := g_bd_nm h
    refine g_topi ex8 ?_
    refine lv_istore (lv' := [(7, .int x8), (6, .int x5), (5, .int x2), (4, .int r1), (0, .ref (a o)), (1, .int i1), (2, .int i2), (3, .int i3)]) hx hb dX11_colorAt_74 hl (by decide) rfl (fun ls hl => ?_)
    refine lv_aload_n hx hb dX11_colorAt_76 rfl (lv_at hl 4 rfl) ?_
    refine lv_iload hx hb dX11_colorAt_77 (lv_at hl 3 rfl) ?_
    refine lv_iload hx hb dX11_colorAt_79 (lv_at hl 2 rfl) ?_
    refine lv_iconst (v := 0) hx hb dX11_colorAt_81 (by decide) ?_
    refine lv_iload hx hb dX11_colorAt_82 (lv_at hl 1 rfl) ?_
    refine lv_iload hx hb dX11_colorAt_84 (lv_at hl 0 rfl) ?_
    obtain ⟨r9, er9, h⟩ := g_cl_some h
    refine b_callV hx hb hml hown hT hK hA hw mk_X11_158 (c_X11_colorBy l D g a o pasts length printed told state backX backY boxes frees bestFree bestTurned bestFirst bestSecond v spare past kept isKept text paper left top wide high original turn boxX boxY boxW boxH freeAtX freeAtY freeW freeH begins ends tried aside r1 x2 (0 : Int32) x5 x8 r9 er9) [0] [] rfl (by decide) 0 0 rfl rfl rfl rfl hl.1 [] rfl (Nat.le_of_ble_eq_true rfl) ⟨Nat.le_of_ble_eq_true rfl, Nat.le_of_ble_eq_true rfl⟩ ⟨Nat.zero_le _, Nat.zero_le _⟩ dX11_colorAt_86 (wb' := [k_Model g a o pasts length printed told state r9.2.1 r9.2.2 boxes frees bestFree bestTurned bestFirst bestSecond v spare past kept isKept text paper left top wide high original turn boxX boxY boxW boxH freeAtX freeAtY freeW freeH begins ends tried aside]) rfl b_e0 1 rfl (by decide) (st2 := [.int r9.1]) rfl (fun H locs hw => ?_)
    obtain rfl := Option.some.inj h
    exact b_iret hQ hx hb hr hlk hw rfl dX11_colorAt_89
  · rw [if_neg hc11] at h
    refine lv_iconst (v := 0) hx hb dX11_colorAt_14 (by decide) ?_
    obtain rfl := Option.some.inj h
    exact b_iret hQ hx hb hr hlk hw rfl dX11_colorAt_15
set_option maxRecDepth 100000 in
set_option maxHeartbeats 4000000 in
theorem c_X11_pixel (l : Launch) (D : va_G) (g : Nat → ClassId) (a : Nat → Nat) (o : Nat) (pasts : Int32) (length : Int32) (printed : Int32) (told : Int32) (state : Int64) (backX : Int32) (backY : Int32) (boxes : Int32) (frees : Int32) (bestFree : Int32) (bestTurned : Int32) (bestFirst : Int32) (bestSecond : Int32) (v : (Nat → Int32)) (spare : (Nat → Int32)) (past : (Nat → Int32)) (kept : (Nat → Int32)) (isKept : (Nat → Int32)) (text : (Nat → Int32)) (paper : (Nat → Int32)) (left : (Nat → Int32)) (top : (Nat → Int32)) (wide : (Nat → Int32)) (high : (Nat → Int32)) (original : (Nat → Int32)) (turn : (Nat → Int32)) (boxX : (Nat → Int32)) (boxY : (Nat → Int32)) (boxW : (Nat → Int32)) (boxH : (Nat → Int32)) (freeAtX : (Nat → Int32)) (freeAtY : (Nat → Int32)) (freeW : (Nat → Int32)) (freeH : (Nat → Int32)) (begins : (Nat → Int32)) (ends : (Nat → Int32)) (tried : (Nat → Int32)) (aside : (Nat → Int32)) (i1 : Int32) (i2 : Int32) (i3 : Int32) (u : Int32 × Int32 × Int32 × (Nat → Int32) × (Nat → Int32) × (Nat → Int32) × (Nat → Int32) × (Nat → Int32) × (Nat → Int32)) (h : f_X11_pixel backX backY v left top wide high original turn i1 i2 i3 = some u) : b_Ct l yX11_pixel cX11_pixel 4 (some .int) 5 125 D g [.ref (a o), .int i1, .int i2, .int i3] [k_Model g a o pasts length printed told state backX backY boxes frees bestFree bestTurned bestFirst bestSecond v spare past kept isKept text paper left top wide high original turn boxX boxY boxW boxH freeAtX freeAtY freeW freeH begins ends tried aside] [k_Model g a o pasts length printed told state u.2.1 u.2.2.1 boxes frees bestFree bestTurned bestFirst bestSecond v spare past kept isKept text paper u.2.2.2.1 u.2.2.2.2.1 u.2.2.2.2.2.1 u.2.2.2.2.2.2.1 u.2.2.2.2.2.2.2.1 u.2.2.2.2.2.2.2.2 boxX boxY boxW boxH freeAtX freeAtY freeW freeH begins ends tried aside] (some (.int u.1)) := by
  refine b_start RX11 (by decide) rfl (Nat.le_of_ble_eq_true rfl) rfl ?_
  intro p e s m args below meth c A ls Q hQ hx hb hr hlk hml hown hT hK hA hw hl
  have hl : lv_has ls 4 [(0, .ref (a o)), (1, .int i1), (2, .int i2), (3, .int i3)] := hl
  unfold f_X11_pixel at h
  refine lv_aload_n hx hb dX11_pixel_0 rfl (lv_at hl 0 rfl) ?_
  refine lv_iload_n hx hb dX11_pixel_1 rfl (lv_at hl 1 rfl) ?_
  refine lv_iload_n hx hb dX11_pixel_2 rfl (lv_at hl 2 rfl) ?_
  refine lv_iload_n hx hb dX11_pixel_3 rfl (lv_at hl 3 rfl) ?_
  obtain ⟨r1, er1, h⟩ := g_cl_some h
  refine b_callV hx hb hml hown hT hK hA hw mk_X11_291 (c_X11_isOnPage l D g a o pasts length printed told state backX backY boxes frees bestFree bestTurned bestFirst bestSecond v spare past kept isKept text paper left top wide high original turn boxX boxY boxW boxH freeAtX freeAtY freeW freeH begins ends tried aside i1 i2 i3 r1 er1) [0] [] rfl (by decide) 0 0 rfl rfl rfl rfl hl.1 [] rfl (Nat.le_of_ble_eq_true rfl) ⟨Nat.le_of_ble_eq_true rfl, Nat.le_of_ble_eq_true rfl⟩ ⟨Nat.zero_le _, Nat.zero_le _⟩ dX11_pixel_4 (wb' := [k_Model g a o pasts length printed told state backX backY boxes frees bestFree bestTurned bestFirst bestSecond v spare past kept isKept text paper left top wide high original turn boxX boxY boxW boxH freeAtX freeAtY freeW freeH begins ends tried aside]) rfl b_e0 1 rfl (by decide) (st2 := [.int r1]) rfl (fun H locs hw => ?_)
  refine lv_if_ne (tgt := 12) hx hb dX11_pixel_7 (by decide) (fun hc7 => ?_) (fun hc7 => ?_)
  · rw [if_neg hc7] at h
    refine lv_aload_n hx hb dX11_pixel_12 rfl (lv_at hl 0 rfl) ?_
    obtain ⟨r2, er2, h⟩ := g_cl_some h
    refine b_callV hx hb hml hown hT hK hA hw mk_X11_176 (c_X11_knows l D g a o pasts length printed told state backX backY boxes frees bestFree bestTurned bestFirst bestSecond v spare past kept isKept text paper left top wide high original turn boxX boxY boxW boxH freeAtX freeAtY freeW freeH begins ends tried aside r2 er2) [0] [] rfl (by decide) 0 0 rfl rfl rfl rfl hl.1 [] rfl (Nat.le_of_ble_eq_true rfl) ⟨Nat.le_of_ble_eq_true rfl, Nat.le_of_ble_eq_true rfl⟩ ⟨Nat.zero_le _, Nat.zero_le _⟩ dX11_pixel_13 (wb' := [k_Model g a o pasts length printed told state r2.1 r2.2.1 boxes frees bestFree bestTurned bestFirst bestSecond v spare past kept isKept text paper r2.2.2.1 r2.2.2.2.1 r2.2.2.2.2.1 r2.2.2.2.2.2.1 r2.2.2.2.2.2.2.1 r2.2.2.2.2.2.2.2 boxX boxY boxW boxH freeAtX freeAtY freeW freeH begins ends tried aside]) rfl b_e0 1 rfl (by decide) (st2 := []) rfl (fun H locs hw => ?_)
    refine lv_aload_n hx hb dX11_pixel_16 rfl (lv_at hl 0 rfl) ?_
    refine lv_iload_n hx hb dX11_pixel_17 rfl (lv_at hl 1 rfl) ?_
    refine lv_iload_n hx hb dX11_pixel_18 rfl (lv_at hl 2 rfl) ?_
    refine lv_iload_n hx hb dX11_pixel_19 rfl (lv_at hl 3 rfl) ?_
    obtain ⟨r3, er3, h⟩ := g_cl_some h
    refine b_callV hx hb hml hown hT hK hA hw mk_X11_294 (c_X11_colorAt l D g a o pasts length printed told state r2.1 r2.2.1 boxes frees bestFree bestTurned bestFirst bestSecond v spare past kept isKept text paper r2.2.2.1 r2.2.2.2.1 r2.2.2.2.2.1 r2.2.2.2.2.2.1 r2.2.2.2.2.2.2.1 r2.2.2.2.2.2.2.2 boxX boxY boxW boxH freeAtX freeAtY freeW freeH begins ends tried aside i1 i2 i3 r3 er3) [0] [] rfl (by decide) 0 0 rfl rfl rfl rfl hl.1 [] rfl (Nat.le_of_ble_eq_true rfl) ⟨Nat.le_of_ble_eq_true rfl, Nat.le_of_ble_eq_true rfl⟩ ⟨Nat.zero_le _, Nat.zero_le _⟩ dX11_pixel_20 (wb' := [k_Model g a o pasts length printed told state r3.2.1 r3.2.2 boxes frees bestFree bestTurned bestFirst bestSecond v spare past kept isKept text paper r2.2.2.1 r2.2.2.2.1 r2.2.2.2.2.1 r2.2.2.2.2.2.1 r2.2.2.2.2.2.2.1 r2.2.2.2.2.2.2.2 boxX boxY boxW boxH freeAtX freeAtY freeW freeH begins ends tried aside]) rfl b_e0 1 rfl (by decide) (st2 := [.int r3.1]) rfl (fun H locs hw => ?_)
    obtain rfl := Option.some.inj h
    exact b_iret hQ hx hb hr hlk hw rfl dX11_pixel_23
  · rw [if_pos hc7] at h
    refine lv_iconst (v := -1) hx hb dX11_pixel_10 (by decide) ?_
    obtain rfl := Option.some.inj h
    exact b_iret hQ hx hb hr hlk hw rfl dX11_pixel_11
set_option maxRecDepth 100000 in
set_option maxHeartbeats 4000000 in
theorem c_X11_spriteAt (l : Launch) (D : va_G) (g : Nat → ClassId) (a : Nat → Nat) (o : Nat) (pasts : Int32) (length : Int32) (printed : Int32) (told : Int32) (state : Int64) (backX : Int32) (backY : Int32) (boxes : Int32) (frees : Int32) (bestFree : Int32) (bestTurned : Int32) (bestFirst : Int32) (bestSecond : Int32) (v : (Nat → Int32)) (spare : (Nat → Int32)) (past : (Nat → Int32)) (kept : (Nat → Int32)) (isKept : (Nat → Int32)) (text : (Nat → Int32)) (paper : (Nat → Int32)) (left : (Nat → Int32)) (top : (Nat → Int32)) (wide : (Nat → Int32)) (high : (Nat → Int32)) (original : (Nat → Int32)) (turn : (Nat → Int32)) (boxX : (Nat → Int32)) (boxY : (Nat → Int32)) (boxW : (Nat → Int32)) (boxH : (Nat → Int32)) (freeAtX : (Nat → Int32)) (freeAtY : (Nat → Int32)) (freeW : (Nat → Int32)) (freeH : (Nat → Int32)) (begins : (Nat → Int32)) (ends : (Nat → Int32)) (tried : (Nat → Int32)) (aside : (Nat → Int32)) (i1 : Int32) (i2 : Int32) (i3 : Int32) (u : Int32 × Int32 × Int32 × (Nat → Int32) × (Nat → Int32) × (Nat → Int32) × (Nat → Int32) × (Nat → Int32) × (Nat → Int32)) (h : f_X11_spriteAt backX backY v left top wide high original turn i1 i2 i3 = some u) : b_Ct l yX11_spriteAt cX11_spriteAt 5 (some .int) 5 125 D g [.ref (a o), .int i1, .int i2, .int i3] [k_Model g a o pasts length printed told state backX backY boxes frees bestFree bestTurned bestFirst bestSecond v spare past kept isKept text paper left top wide high original turn boxX boxY boxW boxH freeAtX freeAtY freeW freeH begins ends tried aside] [k_Model g a o pasts length printed told state u.2.1 u.2.2.1 boxes frees bestFree bestTurned bestFirst bestSecond v spare past kept isKept text paper u.2.2.2.1 u.2.2.2.2.1 u.2.2.2.2.2.1 u.2.2.2.2.2.2.1 u.2.2.2.2.2.2.2.1 u.2.2.2.2.2.2.2.2 boxX boxY boxW boxH freeAtX freeAtY freeW freeH begins ends tried aside] (some (.int u.1)) := by
  refine b_start RX11 (by decide) rfl (Nat.le_of_ble_eq_true rfl) rfl ?_
  intro p e s m args below meth c A ls Q hQ hx hb hr hlk hml hown hT hK hA hw hl
  have hl : lv_has ls 5 [(0, .ref (a o)), (1, .int i1), (2, .int i2), (3, .int i3)] := hl
  unfold f_X11_spriteAt at h
  refine lv_aload_n hx hb dX11_spriteAt_0 rfl (lv_at hl 0 rfl) ?_
  refine lv_iload_n hx hb dX11_spriteAt_1 rfl (lv_at hl 1 rfl) ?_
  refine lv_iload_n hx hb dX11_spriteAt_2 rfl (lv_at hl 2 rfl) ?_
  refine lv_iload_n hx hb dX11_spriteAt_3 rfl (lv_at hl 3 rfl) ?_
  obtain ⟨r1, er1, h⟩ := g_cl_some h
  refine b_callV hx hb hml hown hT hK hA hw mk_X11_291 (c_X11_isOnPage l D g a o pasts length printed told state backX backY boxes frees bestFree bestTurned bestFirst bestSecond v spare past kept isKept text paper left top wide high original turn boxX boxY boxW boxH freeAtX freeAtY freeW freeH begins ends tried aside i1 i2 i3 r1 er1) [0] [] rfl (by decide) 0 0 rfl rfl rfl rfl hl.1 [] rfl (Nat.le_of_ble_eq_true rfl) ⟨Nat.le_of_ble_eq_true rfl, Nat.le_of_ble_eq_true rfl⟩ ⟨Nat.zero_le _, Nat.zero_le _⟩ dX11_spriteAt_4 (wb' := [k_Model g a o pasts length printed told state backX backY boxes frees bestFree bestTurned bestFirst bestSecond v spare past kept isKept text paper left top wide high original turn boxX boxY boxW boxH freeAtX freeAtY freeW freeH begins ends tried aside]) rfl b_e0 1 rfl (by decide) (st2 := [.int r1]) rfl (fun H locs hw => ?_)
  refine lv_if_ne (tgt := 12) hx hb dX11_spriteAt_7 (by decide) (fun hc7 => ?_) (fun hc7 => ?_)
  · rw [if_neg hc7] at h
    refine lv_aload_n hx hb dX11_spriteAt_12 rfl (lv_at hl 0 rfl) ?_
    obtain ⟨r2, er2, h⟩ := g_cl_some h
    refine b_callV hx hb hml hown hT hK hA hw mk_X11_176 (c_X11_knows l D g a o pasts length printed told state backX backY boxes frees bestFree bestTurned bestFirst bestSecond v spare past kept isKept text paper left top wide high original turn boxX boxY boxW boxH freeAtX freeAtY freeW freeH begins ends tried aside r2 er2) [0] [] rfl (by decide) 0 0 rfl rfl rfl rfl hl.1 [] rfl (Nat.le_of_ble_eq_true rfl) ⟨Nat.le_of_ble_eq_true rfl, Nat.le_of_ble_eq_true rfl⟩ ⟨Nat.zero_le _, Nat.zero_le _⟩ dX11_spriteAt_13 (wb' := [k_Model g a o pasts length printed told state r2.1 r2.2.1 boxes frees bestFree bestTurned bestFirst bestSecond v spare past kept isKept text paper r2.2.2.1 r2.2.2.2.1 r2.2.2.2.2.1 r2.2.2.2.2.2.1 r2.2.2.2.2.2.2.1 r2.2.2.2.2.2.2.2 boxX boxY boxW boxH freeAtX freeAtY freeW freeH begins ends tried aside]) rfl b_e0 1 rfl (by decide) (st2 := []) rfl (fun H locs hw => ?_)
    refine lv_aload_n hx hb dX11_spriteAt_16 rfl (lv_at hl 0 rfl) ?_
    refine lv_iload_n hx hb dX11_spriteAt_17 rfl (lv_at hl 1 rfl) ?_
    refine lv_iload_n hx hb dX11_spriteAt_18 rfl (lv_at hl 2 rfl) ?_
    refine lv_iload_n hx hb dX11_spriteAt_19 rfl (lv_at hl 3 rfl) ?_
    obtain ⟨r3, er3, h⟩ := g_cl_some h
    refine b_callV hx hb hml hown hT hK hA hw mk_X11_285 (c_X11_ownerAt l D g a o pasts length printed told state r2.1 r2.2.1 boxes frees bestFree bestTurned bestFirst bestSecond v spare past kept isKept text paper r2.2.2.1 r2.2.2.2.1 r2.2.2.2.2.1 r2.2.2.2.2.2.1 r2.2.2.2.2.2.2.1 r2.2.2.2.2.2.2.2 boxX boxY boxW boxH freeAtX freeAtY freeW freeH begins ends tried aside i1 i2 i3 r3 er3) [0] [] rfl (by decide) 0 0 rfl rfl rfl rfl hl.1 [] rfl (Nat.le_of_ble_eq_true rfl) ⟨Nat.le_of_ble_eq_true rfl, Nat.le_of_ble_eq_true rfl⟩ ⟨Nat.zero_le _, Nat.zero_le _⟩ dX11_spriteAt_20 (wb' := [k_Model g a o pasts length printed told state r2.1 r2.2.1 boxes frees bestFree bestTurned bestFirst bestSecond v spare past kept isKept text paper r2.2.2.1 r2.2.2.2.1 r2.2.2.2.2.1 r2.2.2.2.2.2.1 r2.2.2.2.2.2.2.1 r2.2.2.2.2.2.2.2 boxX boxY boxW boxH freeAtX freeAtY freeW freeH begins ends tried aside]) rfl b_e0 1 rfl (by decide) (st2 := [.int r3]) rfl (fun H locs hw => ?_)
    refine lv_istore (lv' := [(4, .int r3), (0, .ref (a o)), (1, .int i1), (2, .int i2), (3, .int i3)]) hx hb dX11_spriteAt_23 hl (by decide) rfl (fun ls hl => ?_)
    refine lv_iload hx hb dX11_spriteAt_25 (lv_at hl 0 rfl) ?_
    refine lv_if_ge (tgt := 35) hx hb dX11_spriteAt_27 (by decide) (fun hc27 => ?_) (fun hc27 => ?_)
    · rw [if_pos hc27] at h
      refine lv_iload hx hb dX11_spriteAt_35 (lv_at hl 0 rfl) ?_
      obtain rfl := Option.some.inj h
      exact b_iret hQ hx hb hr hlk hw rfl dX11_spriteAt_37
    · rw [if_neg hc27] at h
      refine lv_bipush (v := -4) hx hb dX11_spriteAt_30 (by decide) ?_
      refine lv_goto (tgt := 37) hx hb dX11_spriteAt_32 (by decide) ?_
      obtain rfl := Option.some.inj h
      exact b_iret hQ hx hb hr hlk hw rfl dX11_spriteAt_37
  · rw [if_pos hc7] at h
    refine lv_iconst (v := -1) hx hb dX11_spriteAt_10 (by decide) ?_
    obtain rfl := Option.some.inj h
    exact b_iret hQ hx hb hr hlk hw rfl dX11_spriteAt_11
