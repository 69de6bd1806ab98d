set_option maxRecDepth 100000 in
set_option maxHeartbeats 4000000 in
theorem c_X11_moreOfPage (l : Launch) (D : va_G) (g : Nat → ClassId) (a : Nat → Nat) (o : Nat) (pasts : Int32) (length : Int32) (printed : Int32) (told : Int32) (state : Int64) (backX : Int32) (backY : Int32) (boxes : Int32) (frees : Int32) (bestFree : Int32) (bestTurned : Int32) (bestFirst : Int32) (bestSecond : Int32) (v : (Nat → Int32)) (spare : (Nat → Int32)) (past : (Nat → Int32)) (kept : (Nat → Int32)) (isKept : (Nat → Int32)) (text : (Nat → Int32)) (paper : (Nat → Int32)) (left : (Nat → Int32)) (top : (Nat → Int32)) (wide : (Nat → Int32)) (high : (Nat → Int32)) (original : (Nat → Int32)) (turn : (Nat → Int32)) (boxX : (Nat → Int32)) (boxY : (Nat → Int32)) (boxW : (Nat → Int32)) (boxH : (Nat → Int32)) (freeAtX : (Nat → Int32)) (freeAtY : (Nat → Int32)) (freeW : (Nat → Int32)) (freeH : (Nat → Int32)) (begins : (Nat → Int32)) (ends : (Nat → Int32)) (tried : (Nat → Int32)) (aside : (Nat → Int32)) (i1 : Int64) (i2 : Int32) (u : Int64 × Int32 × Int32 × Int32 × Int32 × (Nat → Int32) × (Nat → Int32) × (Nat → Int32) × (Nat → Int32) × (Nat → Int32) × (Nat → Int32) × (Nat → Int32) × (Nat → Int32) × (Nat → Int32) × (Nat → Int32)) (h : f_X11_moreOfPage backX backY v left top wide high boxX boxY boxW boxH freeAtX freeAtY freeW freeH begins ends i1 i2 = some u) : b_Ct l yX11_moreOfPage cX11_moreOfPage 8 (some .long) 5 120 D g [.ref (a o), .long i1, .int i2] [k_Model g a o pasts length printed told state backX backY boxes frees bestFree bestTurned bestFirst bestSecond v spare past kept isKept text paper left top wide high original turn boxX boxY boxW boxH freeAtX freeAtY freeW freeH begins ends tried aside] [k_Model g a o pasts length printed told state u.2.1 u.2.2.1 u.2.2.2.1 u.2.2.2.2.1 bestFree bestTurned bestFirst bestSecond v spare past kept isKept text paper left top wide high original turn u.2.2.2.2.2.1 u.2.2.2.2.2.2.1 u.2.2.2.2.2.2.2.1 u.2.2.2.2.2.2.2.2.1 u.2.2.2.2.2.2.2.2.2.1 u.2.2.2.2.2.2.2.2.2.2.1 u.2.2.2.2.2.2.2.2.2.2.2.1 u.2.2.2.2.2.2.2.2.2.2.2.2.1 u.2.2.2.2.2.2.2.2.2.2.2.2.2.1 u.2.2.2.2.2.2.2.2.2.2.2.2.2.2 tried aside] (some (.long u.1)) := by
  refine b_start RX11 (by decide) rfl (Nat.le_of_ble_eq_true rfl) rfl ?_
  intro p e s m args below meth c A ls Q hQ hx hb hr hlk hml hown hT hK hA hw hl
  have hl : lv_has ls 8 [(0, .ref (a o)), (1, .long i1), (3, .int i2)] := hl
  unfold f_X11_moreOfPage at h
  refine lv_aload_n hx hb dX11_moreOfPage_0 rfl (lv_at hl 0 rfl) ?_
  refine lv_iload_n hx hb dX11_moreOfPage_1 rfl (lv_at hl 2 rfl) ?_
  obtain ⟨r1, er1, h⟩ := g_cl_some h
  refine b_callV hx hb hml hown hT hK hA hw mk_X11_234 (c_X11_freesOf l D g a o pasts length printed told state backX backY boxes frees bestFree bestTurned bestFirst bestSecond v spare past kept isKept text paper left top wide high original turn boxX boxY boxW boxH freeAtX freeAtY freeW freeH begins ends tried aside i2 r1 er1) [0] [] rfl (by decide) 0 0 rfl rfl rfl rfl hl.1 [] rfl (Nat.le_of_ble_eq_true rfl) ⟨Nat.le_of_ble_eq_true rfl, Nat.le_of_ble_eq_true rfl⟩ ⟨Nat.zero_le _, Nat.zero_le _⟩ dX11_moreOfPage_2 (wb' := [k_Model g a o pasts length printed told state backX backY r1.1 r1.2.1 bestFree bestTurned bestFirst bestSecond v spare past kept isKept text paper left top wide high original turn r1.2.2.1 r1.2.2.2.1 r1.2.2.2.2.1 r1.2.2.2.2.2.1 r1.2.2.2.2.2.2.1 r1.2.2.2.2.2.2.2.1 r1.2.2.2.2.2.2.2.2.1 r1.2.2.2.2.2.2.2.2.2.1 r1.2.2.2.2.2.2.2.2.2.2.1 r1.2.2.2.2.2.2.2.2.2.2.2 tried aside]) rfl b_e0 1 rfl (by decide) (st2 := []) rfl (fun H locs hw => ?_)
  refine lv_lload_n hx hb dX11_moreOfPage_5 rfl (lv_at hl 1 rfl) ?_
  refine lv_aload_n hx hb dX11_moreOfPage_6 rfl (lv_at hl 0 rfl) ?_
  refine lv_iload_n hx hb dX11_moreOfPage_7 rfl (lv_at hl 2 rfl) ?_
  refine lv_iconst (v := 1) hx hb dX11_moreOfPage_8 (by decide) ?_
  obtain ⟨r2, er2, h⟩ := g_cl_some h
  refine b_callV hx hb hml hown hT hK hA hw mk_X11_297 (c_X11_used l D g a o pasts length printed told state backX backY r1.1 r1.2.1 bestFree bestTurned bestFirst bestSecond v spare past kept isKept text paper left top wide high original turn r1.2.2.1 r1.2.2.2.1 r1.2.2.2.2.1 r1.2.2.2.2.2.1 r1.2.2.2.2.2.2.1 r1.2.2.2.2.2.2.2.1 r1.2.2.2.2.2.2.2.2.1 r1.2.2.2.2.2.2.2.2.2.1 r1.2.2.2.2.2.2.2.2.2.2.1 r1.2.2.2.2.2.2.2.2.2.2.2 tried aside i2 (1 : Int32) r2 er2) [0] [] rfl (by decide) 0 0 rfl rfl rfl rfl hl.1 [.long i1] rfl (Nat.le_of_ble_eq_true rfl) ⟨Nat.le_of_ble_eq_true rfl, Nat.le_of_ble_eq_true rfl⟩ ⟨Nat.zero_le _, Nat.zero_le _⟩ dX11_moreOfPage_9 (wb' := [k_Model g a o pasts length printed told state backX backY r1.1 r1.2.1 bestFree bestTurned bestFirst bestSecond v spare past kept isKept text paper left top wide high original turn r1.2.2.1 r1.2.2.2.1 r1.2.2.2.2.1 r1.2.2.2.2.2.1 r1.2.2.2.2.2.2.1 r1.2.2.2.2.2.2.2.1 r1.2.2.2.2.2.2.2.2.1 r1.2.2.2.2.2.2.2.2.2.1 r1.2.2.2.2.2.2.2.2.2.2.1 r1.2.2.2.2.2.2.2.2.2.2.2 tried aside]) rfl b_e0 1 rfl (by decide) (st2 := [.int r2, .long i1]) rfl (fun H locs hw => ?_)
  refine b_callS hx hb hml hown hT hK hA hw mk_X11_339 (c_X11_more l D g i1 r2) [] [0] rfl (by decide) rfl hl.1 [] rfl (Nat.le_of_ble_eq_true rfl) ⟨Nat.le_of_ble_eq_true rfl, Nat.le_of_ble_eq_true rfl⟩ ⟨Nat.zero_le _, Nat.zero_le _⟩ dX11_moreOfPage_12 (wb' := [k_Model g a o pasts length printed told state backX backY r1.1 r1.2.1 bestFree bestTurned bestFirst bestSecond v spare past kept isKept text paper left top wide high original turn r1.2.2.1 r1.2.2.2.1 r1.2.2.2.2.1 r1.2.2.2.2.2.1 r1.2.2.2.2.2.2.1 r1.2.2.2.2.2.2.2.1 r1.2.2.2.2.2.2.2.2.1 r1.2.2.2.2.2.2.2.2.2.1 r1.2.2.2.2.2.2.2.2.2.2.1 r1.2.2.2.2.2.2.2.2.2.2.2 tried aside]) rfl (b_e1 rfl b_e0) 1 rfl (by decide) (st2 := [.long (f_X11_more i1 r2)]) rfl (fun H locs hw => ?_)
  refine lv_aload_n hx hb dX11_moreOfPage_15 rfl (lv_at hl 0 rfl) ?_
  refine lv_iload_n hx hb dX11_moreOfPage_16 rfl (lv_at hl 2 rfl) ?_
  refine lv_iconst (v := 0) hx hb dX11_moreOfPage_17 (by decide) ?_
  obtain ⟨r3, er3, h⟩ := g_cl_some h
  refine b_callV hx hb hml hown hT hK hA hw mk_X11_297 (c_X11_used l D g a o pasts length printed told state backX backY r1.1 r1.2.1 bestFree bestTurned bestFirst bestSecond v spare past kept isKept text paper left top wide high original turn r1.2.2.1 r1.2.2.2.1 r1.2.2.2.2.1 r1.2.2.2.2.2.1 r1.2.2.2.2.2.2.1 r1.2.2.2.2.2.2.2.1 r1.2.2.2.2.2.2.2.2.1 r1.2.2.2.2.2.2.2.2.2.1 r1.2.2.2.2.2.2.2.2.2.2.1 r1.2.2.2.2.2.2.2.2.2.2.2 tried aside i2 (0 : Int32) r3 er3) [0] [] rfl (by decide) 0 0 rfl rfl rfl rfl hl.1 [.long (f_X11_more i1 r2)] rfl (Nat.le_of_ble_eq_true rfl) ⟨Nat.le_of_ble_eq_true rfl, Nat.le_of_ble_eq_true rfl⟩ ⟨Nat.zero_le _, Nat.zero_le _⟩ dX11_moreOfPage_18 (wb' := [k_Model g a o pasts length printed told state backX backY r1.1 r1.2.1 bestFree bestTurned bestFirst bestSecond v spare past kept isKept text paper left top wide high original turn r1.2.2.1 r1.2.2.2.1 r1.2.2.2.2.1 r1.2.2.2.2.2.1 r1.2.2.2.2.2.2.1 r1.2.2.2.2.2.2.2.1 r1.2.2.2.2.2.2.2.2.1 r1.2.2.2.2.2.2.2.2.2.1 r1.2.2.2.2.2.2.2.2.2.2.1 r1.2.2.2.2.2.2.2.2.2.2.2 tried aside]) rfl b_e0 1 rfl (by decide) (st2 := [.int r3, .long (f_X11_more i1 r2)]) rfl (fun H locs hw => ?_)
  refine b_callS hx hb hml hown hT hK hA hw mk_X11_339 (c_X11_more l D g (f_X11_more i1 r2) r3) [] [0] rfl (by decide) rfl hl.1 [] rfl (Nat.le_of_ble_eq_true rfl) ⟨Nat.le_of_ble_eq_true rfl, Nat.le_of_ble_eq_true rfl⟩ ⟨Nat.zero_le _, Nat.zero_le _⟩ dX11_moreOfPage_21 (wb' := [k_Model g a o pasts length printed told state backX backY r1.1 r1.2.1 bestFree bestTurned bestFirst bestSecond v spare past kept isKept text paper left top wide high original turn r1.2.2.1 r1.2.2.2.1 r1.2.2.2.2.1 r1.2.2.2.2.2.1 r1.2.2.2.2.2.2.1 r1.2.2.2.2.2.2.2.1 r1.2.2.2.2.2.2.2.2.1 r1.2.2.2.2.2.2.2.2.2.1 r1.2.2.2.2.2.2.2.2.2.2.1 r1.2.2.2.2.2.2.2.2.2.2.2 tried aside]) rfl (b_e1 rfl b_e0) 1 rfl (by decide) (st2 := [.long (f_X11_more (f_X11_more i1 r2) r3)]) rfl (fun H locs hw => ?_)
  obtain ⟨y4, ey4, h⟩ := g_bd_nm h
  refine g_topl ey4 ?_
  refine lv_lstore (lv' := [(4, .long y4), (0, .ref (a o)), (1, .long i1), (3, .int i2)]) hx hb dX11_moreOfPage_24 hl (by decide) rfl (fun ls hl => ?_)
  refine lv_lload hx hb dX11_moreOfPage_26 (lv_at hl 0 rfl) ?_
  refine lv_aload_n hx hb dX11_moreOfPage_28 rfl (lv_at hl 1 rfl) ?_
  refine b_get hx hb hT hK hown fl_X11_200 hw 0 0 rfl rfl (v := .int r1.2.1) rfl dX11_moreOfPage_29 ?_
  refine b_callS hx hb hml hown hT hK hA hw mk_X11_339 (c_X11_more l D g y4 r1.2.1) [] [0] rfl (by decide) rfl hl.1 [] rfl (Nat.le_of_ble_eq_true rfl) ⟨Nat.le_of_ble_eq_true rfl, Nat.le_of_ble_eq_true rfl⟩ ⟨Nat.zero_le _, Nat.zero_le _⟩ dX11_moreOfPage_32 (wb' := [k_Model g a o pasts length printed told state backX backY r1.1 r1.2.1 bestFree bestTurned bestFirst bestSecond v spare past kept isKept text paper left top wide high original turn r1.2.2.1 r1.2.2.2.1 r1.2.2.2.2.1 r1.2.2.2.2.2.1 r1.2.2.2.2.2.2.1 r1.2.2.2.2.2.2.2.1 r1.2.2.2.2.2.2.2.2.1 r1.2.2.2.2.2.2.2.2.2.1 r1.2.2.2.2.2.2.2.2.2.2.1 r1.2.2.2.2.2.2.2.2.2.2.2 tried aside]) rfl (b_e1 rfl b_e0) 1 rfl (by decide) (st2 := [.long (f_X11_more y4 r1.2.1)]) rfl (fun H locs hw => ?_)
  obtain ⟨y5, ey5, h⟩ := g_bd_nm h
  refine g_topl ey5 ?_
  refine lv_lstore (lv' := [(4, .long y5), (0, .ref (a o)), (1, .long i1), (3, .int i2)]) hx hb dX11_moreOfPage_35 hl (by decide) rfl (fun ls hl => ?_)
  refine lv_iconst (v := 0) hx hb dX11_moreOfPage_37 (by decide) ?_
  refine lv_istore (lv' := [(6, .int (0 : Int32)), (4, .long y5), (0, .ref (a o)), (1, .long i1), (3, .int i2)]) hx hb dX11_moreOfPage_38 hl (by decide) rfl (fun ls hl => ?_)
  have hL40 : ∀ (n : Nat) (y6 : Int64) (x7 : Int32) (x8 : Int32) (x9 : Int32) (H : Heap) (locs : List Loc) (ls : Array Slot), b_Wd D A s.heap H locs [k_Model g a o pasts length printed told state x8 x9 r1.1 r1.2.1 bestFree bestTurned bestFirst bestSecond v spare past kept isKept text paper left top wide high original turn r1.2.2.1 r1.2.2.2.1 r1.2.2.2.2.1 r1.2.2.2.2.2.1 r1.2.2.2.2.2.2.1 r1.2.2.2.2.2.2.2.1 r1.2.2.2.2.2.2.2.2.1 r1.2.2.2.2.2.2.2.2.2.1 r1.2.2.2.2.2.2.2.2.2.2.1 r1.2.2.2.2.2.2.2.2.2.2.2 tried aside] → lv_has ls 8 [(0, .ref (a o)), (3, .int i2), (4, .long y6), (6, .int x7)] → f_X11_moreOfPage_L40 v left top wide high i2 r1 n y6 x7 x8 x9 = some u → W p l e (g_rm 5 120) s m args below meth c H locs 0 0 Q (F0 m 40 ls []) := by
    intro n
    induction n with
    | zero =>
      intro y6 x7 x8 x9 H locs ls hw hl h
      cases (show none = some u from h)
    | succ n ih40 =>
      intro y6 x7 x8 x9 H locs ls hw hl h
      rw [f_X11_moreOfPage_L40] at h
      refine lv_iload hx hb dX11_moreOfPage_40 (lv_at hl 3 rfl) ?_
      refine lv_aload_n hx hb dX11_moreOfPage_42 rfl (lv_at hl 0 rfl) ?_
      refine b_get hx hb hT hK hown fl_X11_7 hw 0 0 rfl rfl (v := .ref (a (o+1))) rfl dX11_moreOfPage_43 ?_
      refine lv_iconst (v := 2) hx hb dX11_moreOfPage_46 (by decide) ?_
      obtain ⟨x10, ex10, hix10, h⟩ := g_rd_some h
      refine b_iald hx hb hK hw 0 1 rfl (f := v) rfl hix10 ex10 dX11_moreOfPage_47 ?_
      refine lv_icmp_ge (tgt := 93) hx hb dX11_moreOfPage_48 (by decide) (fun hc48 => ?_) (fun hc48 => ?_)
      · rw [if_pos hc48] at h
        refine lv_lload hx hb dX11_moreOfPage_93 (lv_at hl 2 rfl) ?_
        obtain rfl := Option.some.inj h
        exact b_lret hQ hx hb hr hlk hw rfl dX11_moreOfPage_95
      · rw [if_neg hc48] at h
        refine lv_iconst (v := 0) hx hb dX11_moreOfPage_51 (by decide) ?_
        refine lv_istore (lv' := [(7, .int (0 : Int32)), (0, .ref (a o)), (3, .int i2), (4, .long y6), (6, .int x7)]) hx hb dX11_moreOfPage_52 hl (by decide) rfl (fun ls hl => ?_)
        obtain ⟨k87_13, ek87_13, h⟩ := g_jn_nm h
        have hk87_13 : ∀ (y11 : Int64) (x12 : Int32) (x13 : Int32) (H : Heap) (locs : List Loc) (ls : Array Slot), b_Wd D A s.heap H locs [k_Model g a o pasts length printed told state x12 x13 r1.1 r1.2.1 bestFree bestTurned bestFirst bestSecond v spare past kept isKept text paper left top wide high original turn r1.2.2.1 r1.2.2.2.1 r1.2.2.2.2.1 r1.2.2.2.2.2.1 r1.2.2.2.2.2.2.1 r1.2.2.2.2.2.2.2.1 r1.2.2.2.2.2.2.2.2.1 r1.2.2.2.2.2.2.2.2.2.1 r1.2.2.2.2.2.2.2.2.2.2.1 r1.2.2.2.2.2.2.2.2.2.2.2 tried aside] → lv_has ls 8 [(0, .ref (a o)), (3, .int i2), (4, .long y11), (6, .int x7)] → k87_13 y11 x12 x13 = some u → W p l e (g_rm 5 120) s m args below meth c H locs 0 0 Q (F0 m 87 ls []) := by
          intro y11 x12 x13 H locs ls hw hl h
          subst ek87_13
          dsimp only at h
          obtain ⟨x15, ex15, h⟩ := g_bd_nm h
          refine lv_iinc (v := x15) (lv' := [(6, .int x15), (0, .ref (a o)), (3, .int i2), (4, .long y11)]) hx hb dX11_moreOfPage_87 hl (k := 3) rfl (by rw [ex15]; rfl) (by decide) rfl (fun ls hl => ?_)
          refine lv_goto (tgt := 40) hx hb dX11_moreOfPage_90 (by decide) ?_
          exact ih40 y11 x15 x12 x13 _ _ _ hw (lv_sub hl [1, 2, 3, 0] rfl) h
        have hL54 : ∀ (n : Nat) (y16 : Int64) (x17 : Int32) (x18 : Int32) (x19 : Int32) (H : Heap) (locs : List Loc) (ls : Array Slot), b_Wd D A s.heap H locs [k_Model g a o pasts length printed told state x18 x19 r1.1 r1.2.1 bestFree bestTurned bestFirst bestSecond v spare past kept isKept text paper left top wide high original turn r1.2.2.1 r1.2.2.2.1 r1.2.2.2.2.1 r1.2.2.2.2.2.1 r1.2.2.2.2.2.2.1 r1.2.2.2.2.2.2.2.1 r1.2.2.2.2.2.2.2.2.1 r1.2.2.2.2.2.2.2.2.2.1 r1.2.2.2.2.2.2.2.2.2.2.1 r1.2.2.2.2.2.2.2.2.2.2.2 tried aside] → lv_has ls 8 [(0, .ref (a o)), (3, .int i2), (4, .long y16), (6, .int x7), (7, .int x17)] → f_X11_moreOfPage_L54 v left top wide high i2 x7 k87_13 n y16 x17 x18 x19 = some u → W p l e (g_rm 5 120) s m args below meth c H locs 0 0 Q (F0 m 54 ls []) := by
          intro n
          induction n with
          | zero =>
            intro y16 x17 x18 x19 H locs ls hw hl h
            cases (show none = some u from h)
          | succ n ih54 =>
            intro y16 x17 x18 x19 H locs ls hw hl h
            rw [f_X11_moreOfPage_L54] at h
            refine lv_iload hx hb dX11_moreOfPage_54 (lv_at hl 4 rfl) ?_
            refine lv_aload_n hx hb dX11_moreOfPage_56 rfl (lv_at hl 0 rfl) ?_
            refine b_get hx hb hT hK hown fl_X11_7 hw 0 0 rfl rfl (v := .ref (a (o+1))) rfl dX11_moreOfPage_57 ?_
            refine lv_iconst (v := 1) hx hb dX11_moreOfPage_60 (by decide) ?_
            obtain ⟨x20, ex20, hix20, h⟩ := g_rd_some h
            refine b_iald hx hb hK hw 0 1 rfl (f := v) rfl hix20 ex20 dX11_moreOfPage_61 ?_
            refine lv_icmp_ge (tgt := 87) hx hb dX11_moreOfPage_62 (by decide) (fun hc62 => ?_) (fun hc62 => ?_)
            · rw [if_pos hc62] at h
              exact hk87_13 y16 x18 x19 _ _ _ hw (lv_sub hl [0, 1, 2, 3] rfl) h
            · rw [if_neg hc62] at h
              refine lv_lload hx hb dX11_moreOfPage_65 (lv_at hl 2 rfl) ?_
              refine lv_aload_n hx hb dX11_moreOfPage_67 rfl (lv_at hl 0 rfl) ?_
              refine lv_iload_n hx hb dX11_moreOfPage_68 rfl (lv_at hl 1 rfl) ?_
              refine lv_iload hx hb dX11_moreOfPage_69 (lv_at hl 4 rfl) ?_
              refine lv_iload hx hb dX11_moreOfPage_71 (lv_at hl 3 rfl) ?_
              obtain ⟨r21, er21, h⟩ := g_cl_some h
              refine b_callV hx hb hml hown hT hK hA hw mk_X11_294 (c_X11_colorAt l D g a o pasts length printed told state x18 x19 r1.1 r1.2.1 bestFree bestTurned bestFirst bestSecond v spare past kept isKept text paper left top wide high original turn r1.2.2.1 r1.2.2.2.1 r1.2.2.2.2.1 r1.2.2.2.2.2.1 r1.2.2.2.2.2.2.1 r1.2.2.2.2.2.2.2.1 r1.2.2.2.2.2.2.2.2.1 r1.2.2.2.2.2.2.2.2.2.1 r1.2.2.2.2.2.2.2.2.2.2.1 r1.2.2.2.2.2.2.2.2.2.2.2 tried aside i2 x17 x7 r21 er21) [0] [] rfl (by decide) 0 0 rfl rfl rfl rfl hl.1 [.long y16] rfl (Nat.le_of_ble_eq_true rfl) ⟨Nat.le_of_ble_eq_true rfl, Nat.le_of_ble_eq_true rfl⟩ ⟨Nat.zero_le _, Nat.zero_le _⟩ dX11_moreOfPage_73 (wb' := [k_Model g a o pasts length printed told state r21.2.1 r21.2.2 r1.1 r1.2.1 bestFree bestTurned bestFirst bestSecond v spare past kept isKept text paper left top wide high original turn r1.2.2.1 r1.2.2.2.1 r1.2.2.2.2.1 r1.2.2.2.2.2.1 r1.2.2.2.2.2.2.1 r1.2.2.2.2.2.2.2.1 r1.2.2.2.2.2.2.2.2.1 r1.2.2.2.2.2.2.2.2.2.1 r1.2.2.2.2.2.2.2.2.2.2.1 r1.2.2.2.2.2.2.2.2.2.2.2 tried aside]) rfl b_e0 1 rfl (by decide) (st2 := [.int r21.1, .long y16]) rfl (fun H locs hw => ?_)
              refine b_callS hx hb hml hown hT hK hA hw mk_X11_339 (c_X11_more l D g y16 r21.1) [] [0] rfl (by decide) rfl hl.1 [] rfl (Nat.le_of_ble_eq_true rfl) ⟨Nat.le_of_ble_eq_true rfl, Nat.le_of_ble_eq_true rfl⟩ ⟨Nat.zero_le _, Nat.zero_le _⟩ dX11_moreOfPage_76 (wb' := [k_Model g a o pasts length printed told state r21.2.1 r21.2.2 r1.1 r1.2.1 bestFree bestTurned bestFirst bestSecond v spare past kept isKept text paper left top wide high original turn r1.2.2.1 r1.2.2.2.1 r1.2.2.2.2.1 r1.2.2.2.2.2.1 r1.2.2.2.2.2.2.1 r1.2.2.2.2.2.2.2.1 r1.2.2.2.2.2.2.2.2.1 r1.2.2.2.2.2.2.2.2.2.1 r1.2.2.2.2.2.2.2.2.2.2.1 r1.2.2.2.2.2.2.2.2.2.2.2 tried aside]) rfl (b_e1 rfl b_e0) 1 rfl (by decide) (st2 := [.long (f_X11_more y16 r21.1)]) rfl (fun H locs hw => ?_)
              obtain ⟨y22, ey22, h⟩ := g_bd_nm h
              refine g_topl ey22 ?_
              refine lv_lstore (lv' := [(4, .long y22), (0, .ref (a o)), (3, .int i2), (6, .int x7), (7, .int x17)]) hx hb dX11_moreOfPage_79 hl (by decide) rfl (fun ls hl => ?_)
              obtain ⟨x23, ex23, h⟩ := g_bd_nm h
              refine lv_iinc (v := x23) (lv' := [(7, .int x23), (4, .long y22), (0, .ref (a o)), (3, .int i2), (6, .int x7)]) hx hb dX11_moreOfPage_81 hl (k := 4) rfl (by rw [ex23]; rfl) (by decide) rfl (fun ls hl => ?_)
              refine lv_goto (tgt := 54) hx hb dX11_moreOfPage_84 (by decide) ?_
              exact ih54 y22 x23 r21.2.1 r21.2.2 _ _ _ hw (lv_sub hl [2, 3, 1, 4, 0] rfl) h
        exact hL54 g_fuel y6 (0 : Int32) x8 x9 _ _ _ hw (lv_sub hl [1, 2, 3, 4, 0] rfl) h
  exact hL40 g_fuel y5 (0 : Int32) backX backY _ _ _ hw (lv_sub hl [2, 4, 1, 0] rfl) h
set_option maxRecDepth 100000 in
set_option maxHeartbeats 4000000 in
theorem c_X11_checksum (l : Launch) (D : va_G) (g : Nat → ClassId) (a : Nat → Nat) (o : Nat) (pasts : Int32) (length : Int32) (printed : Int32) (told : Int32) (state : Int64) (backX : Int32) (backY : Int32) (boxes : Int32) (frees : Int32) (bestFree : Int32) (bestTurned : Int32) (bestFirst : Int32) (bestSecond : Int32) (v : (Nat → Int32)) (spare : (Nat → Int32)) (past : (Nat → Int32)) (kept : (Nat → Int32)) (isKept : (Nat → Int32)) (text : (Nat → Int32)) (paper : (Nat → Int32)) (left : (Nat → Int32)) (top : (Nat → Int32)) (wide : (Nat → Int32)) (high : (Nat → Int32)) (original : (Nat → Int32)) (turn : (Nat → Int32)) (boxX : (Nat → Int32)) (boxY : (Nat → Int32)) (boxW : (Nat → Int32)) (boxH : (Nat → Int32)) (freeAtX : (Nat → Int32)) (freeAtY : (Nat → Int32)) (freeW : (Nat → Int32)) (freeH : (Nat → Int32)) (begins : (Nat → Int32)) (ends : (Nat → Int32)) (tried : (Nat → Int32)) (aside : (Nat → Int32)) (u : Int64 × Int32 × Int32 × Int32 × Int32 × (Nat → Int32) × (Nat → Int32) × (Nat → Int32) × (Nat → Int32) × (Nat → Int32) × (Nat → Int32) × (Nat → Int32) × (Nat → Int32) × (Nat → Int32) × (Nat → Int32) × (Nat → Int32) × (Nat → Int32) × (Nat → Int32) × (Nat → Int32) × (Nat → Int32) × (Nat → Int32)) (h : f_X11_checksum backX backY boxes frees v left top wide high original turn boxX boxY boxW boxH freeAtX freeAtY freeW freeH begins ends = some u) : b_Ct l yX11_checksum cX11_checksum 4 (some .long) 6 147 D g [.ref (a o)] [k_Model g a o pasts length printed told state backX backY boxes frees bestFree bestTurned bestFirst bestSecond v spare past kept isKept text paper left top wide high original turn boxX boxY boxW boxH freeAtX freeAtY freeW freeH begins ends tried aside] [k_Model g a o pasts length printed told state u.2.1 u.2.2.1 u.2.2.2.1 u.2.2.2.2.1 bestFree bestTurned bestFirst bestSecond v spare past kept isKept text paper u.2.2.2.2.2.1 u.2.2.2.2.2.2.1 u.2.2.2.2.2.2.2.1 u.2.2.2.2.2.2.2.2.1 u.2.2.2.2.2.2.2.2.2.1 u.2.2.2.2.2.2.2.2.2.2.1 u.2.2.2.2.2.2.2.2.2.2.2.1 u.2.2.2.2.2.2.2.2.2.2.2.2.1 u.2.2.2.2.2.2.2.2.2.2.2.2.2.1 u.2.2.2.2.2.2.2.2.2.2.2.2.2.2.1 u.2.2.2.2.2.2.2.2.2.2.2.2.2.2.2.1 u.2.2.2.2.2.2.2.2.2.2.2.2.2.2.2.2.1 u.2.2.2.2.2.2.2.2.2.2.2.2.2.2.2.2.2.1 u.2.2.2.2.2.2.2.2.2.2.2.2.2.2.2.2.2.2.1 u.2.2.2.2.2.2.2.2.2.2.2.2.2.2.2.2.2.2.2.1 u.2.2.2.2.2.2.2.2.2.2.2.2.2.2.2.2.2.2.2.2 tried aside] (some (.long u.1)) := by
  refine b_start RX11 (by decide) rfl (Nat.le_of_ble_eq_true rfl) rfl ?_
  intro p e s m args below meth c A ls Q hQ hx hb hr hlk hml hown hT hK hA hw hl
  have hl : lv_has ls 4 [(0, .ref (a o))] := hl
  unfold f_X11_checksum at h
  refine lv_aload_n hx hb dX11_checksum_0 rfl (lv_at hl 0 rfl) ?_
  obtain ⟨r1, er1, h⟩ := g_cl_some h
  refine b_callV hx hb hml hown hT hK hA hw mk_X11_176 (c_X11_knows l D g a o pasts length printed told state backX backY boxes frees bestFree bestTurned bestFirst bestSecond v spare past kept isKept text paper left top wide high original turn boxX boxY boxW boxH freeAtX freeAtY freeW freeH begins ends tried aside r1 er1) [0] [] rfl (by decide) 0 0 rfl rfl rfl rfl hl.1 [] rfl (Nat.le_of_ble_eq_true rfl) ⟨Nat.le_of_ble_eq_true rfl, Nat.le_of_ble_eq_true rfl⟩ ⟨Nat.zero_le _, Nat.zero_le _⟩ dX11_checksum_1 (wb' := [k_Model g a o pasts length printed told state r1.1 r1.2.1 boxes frees bestFree bestTurned bestFirst bestSecond v spare past kept isKept text paper r1.2.2.1 r1.2.2.2.1 r1.2.2.2.2.1 r1.2.2.2.2.2.1 r1.2.2.2.2.2.2.1 r1.2.2.2.2.2.2.2 boxX boxY boxW boxH freeAtX freeAtY freeW freeH begins ends tried aside]) rfl b_e0 1 rfl (by decide) (st2 := []) rfl (fun H locs hw => ?_)
  refine lv_ldc2 hx hb hown (hT _ kc_X11_347) dX11_checksum_4 ?_
  refine lv_aload_n hx hb dX11_checksum_7 rfl (lv_at hl 0 rfl) ?_
  refine b_get hx hb hT hK hown fl_X11_7 hw 0 0 rfl rfl (v := .ref (a (o+1))) rfl dX11_checksum_8 ?_
  refine lv_iconst (v := 0) hx hb dX11_checksum_11 (by decide) ?_
  obtain ⟨x2, ex2, hix2, h⟩ := g_rd_some h
  refine b_iald hx hb hK hw 0 1 rfl (f := v) rfl hix2 ex2 dX11_checksum_12 ?_
  refine b_callS hx hb hml hown hT hK hA hw mk_X11_339 (c_X11_more l D g (19 : Int64) x2) [] [0] rfl (by decide) rfl hl.1 [] rfl (Nat.le_of_ble_eq_true rfl) ⟨Nat.le_of_ble_eq_true rfl, Nat.le_of_ble_eq_true rfl⟩ ⟨Nat.zero_le _, Nat.zero_le _⟩ dX11_checksum_13 (wb' := [k_Model g a o pasts length printed told state r1.1 r1.2.1 boxes frees bestFree bestTurned bestFirst bestSecond v spare past kept isKept text paper r1.2.2.1 r1.2.2.2.1 r1.2.2.2.2.1 r1.2.2.2.2.2.1 r1.2.2.2.2.2.2.1 r1.2.2.2.2.2.2.2 boxX boxY boxW boxH freeAtX freeAtY freeW freeH begins ends tried aside]) rfl (b_e1 rfl b_e0) 1 rfl (by decide) (st2 := [.long (f_X11_more (19 : Int64) x2)]) rfl (fun H locs hw => ?_)
  obtain ⟨y3, ey3, h⟩ := g_bd_nm h
  refine g_topl ey3 ?_
  refine lv_lstore_n (lv' := [(1, .long y3), (0, .ref (a o))]) hx hb dX11_checksum_16 rfl hl (by decide) rfl (fun ls hl => ?_)
  refine lv_iconst (v := 0) hx hb dX11_checksum_17 (by decide) ?_
  refine lv_istore_n (lv' := [(3, .int (0 : Int32)), (1, .long y3), (0, .ref (a o))]) hx hb dX11_checksum_18 rfl hl (by decide) rfl (fun ls hl => ?_)
  obtain ⟨k42_6, ek42_6, h⟩ := g_jn_nm h
  have hk42_6 : ∀ (y4 : Int64) (x5 : Int32) (x6 : Int32) (H : Heap) (locs : List Loc) (ls : Array Slot), b_Wd D A s.heap H locs [k_Model g a o pasts length printed told state x5 x6 boxes frees bestFree bestTurned bestFirst bestSecond v spare past kept isKept text paper r1.2.2.1 r1.2.2.2.1 r1.2.2.2.2.1 r1.2.2.2.2.2.1 r1.2.2.2.2.2.2.1 r1.2.2.2.2.2.2.2 boxX boxY boxW boxH freeAtX freeAtY freeW freeH begins ends tried aside] → lv_has ls 4 [(0, .ref (a o)), (1, .long y4)] → k42_6 y4 x5 x6 = some u → W p l e (g_rm 6 147) s m args below meth c H locs 0 0 Q (F0 m 42 ls []) := by
    intro y4 x5 x6 H locs ls hw hl h
    subst ek42_6
    dsimp only at h
    refine lv_lload_n hx hb dX11_checksum_42 rfl (lv_at hl 1 rfl) ?_
    refine lv_aload_n hx hb dX11_checksum_43 rfl (lv_at hl 0 rfl) ?_
    refine b_get hx hb hT hK hown fl_X11_7 hw 0 0 rfl rfl (v := .ref (a (o+1))) rfl dX11_checksum_44 ?_
    refine lv_bipush (v := 13) hx hb dX11_checksum_47 (by decide) ?_
    obtain ⟨x8, ex8, hix8, h⟩ := g_rd_some h
    refine b_iald hx hb hK hw 0 1 rfl (f := v) rfl hix8 ex8 dX11_checksum_49 ?_
    refine b_callS hx hb hml hown hT hK hA hw mk_X11_339 (c_X11_more l D g y4 x8) [] [0] rfl (by decide) rfl hl.1 [] rfl (Nat.le_of_ble_eq_true rfl) ⟨Nat.le_of_ble_eq_true rfl, Nat.le_of_ble_eq_true rfl⟩ ⟨Nat.zero_le _, Nat.zero_le _⟩ dX11_checksum_50 (wb' := [k_Model g a o pasts length printed told state x5 x6 boxes frees bestFree bestTurned bestFirst bestSecond v spare past kept isKept text paper r1.2.2.1 r1.2.2.2.1 r1.2.2.2.2.1 r1.2.2.2.2.2.1 r1.2.2.2.2.2.2.1 r1.2.2.2.2.2.2.2 boxX boxY boxW boxH freeAtX freeAtY freeW freeH begins ends tried aside]) rfl (b_e1 rfl b_e0) 1 rfl (by decide) (st2 := [.long (f_X11_more y4 x8)]) rfl (fun H locs hw => ?_)
    obtain ⟨y9, ey9, h⟩ := g_bd_nm h
    refine g_topl ey9 ?_
    refine lv_lstore_n (lv' := [(1, .long y9), (0, .ref (a o))]) hx hb dX11_checksum_53 rfl hl (by decide) rfl (fun ls hl => ?_)
    refine lv_iconst (v := 0) hx hb dX11_checksum_54 (by decide) ?_
    refine lv_istore_n (lv' := [(3, .int (0 : Int32)), (1, .long y9), (0, .ref (a o))]) hx hb dX11_checksum_55 rfl hl (by decide) rfl (fun ls hl => ?_)
    have hL56 : ∀ (n : Nat) (y10 : Int64) (x11 : Int32) (x12 : Int32) (x13 : Int32) (x14 : Int32) (x15 : Int32) (f16 : Nat → Int32) (f17 : Nat → Int32) (f18 : Nat → Int32) (f19 : Nat → Int32) (f20 : Nat → Int32) (f21 : Nat → Int32) (f22 : Nat → Int32) (f23 : Nat → Int32) (f24 : Nat → Int32) (f25 : Nat → Int32) (H : Heap) (locs : List Loc) (ls : Array Slot), b_Wd D A s.heap H locs [k_Model g a o pasts length printed told state x12 x13 x14 x15 bestFree bestTurned bestFirst bestSecond v spare past kept isKept text paper r1.2.2.1 r1.2.2.2.1 r1.2.2.2.2.1 r1.2.2.2.2.2.1 r1.2.2.2.2.2.2.1 r1.2.2.2.2.2.2.2 f16 f17 f18 f19 f20 f21 f22 f23 f24 f25 tried aside] → lv_has ls 4 [(0, .ref (a o)), (1, .long y10), (3, .int x11)] → f_X11_checksum_L56 v r1 n y10 x11 x12 x13 x14 x15 f16 f17 f18 f19 f20 f21 f22 f23 f24 f25 = some u → W p l e (g_rm 6 147) s m args below meth c H locs 0 0 Q (F0 m 56 ls []) := by
      intro n
      induction n with
      | zero =>
        intro y10 x11 x12 x13 x14 x15 f16 f17 f18 f19 f20 f21 f22 f23 f24 f25 H locs ls hw hl h
        cases (show none = some u from h)
      | succ n ih56 =>
        intro y10 x11 x12 x13 x14 x15 f16 f17 f18 f19 f20 f21 f22 f23 f24 f25 H locs ls hw hl h
        rw [f_X11_checksum_L56] at h
        refine lv_iload_n hx hb dX11_checksum_56 rfl (lv_at hl 2 rfl) ?_
        refine lv_aload_n hx hb dX11_checksum_57 rfl (lv_at hl 0 rfl) ?_
        refine b_get hx hb hT hK hown fl_X11_7 hw 0 0 rfl rfl (v := .ref (a (o+1))) rfl dX11_checksum_58 ?_
        refine lv_bipush (v := 13) hx hb dX11_checksum_61 (by decide) ?_
        obtain ⟨x26, ex26, hix26, h⟩ := g_rd_some h
        refine b_iald hx hb hK hw 0 1 rfl (f := v) rfl hix26 ex26 dX11_checksum_63 ?_
        refine lv_icmp_ge (tgt := 80) hx hb dX11_checksum_64 (by decide) (fun hc64 => ?_) (fun hc64 => ?_)
        · rw [if_pos hc64] at h
          refine lv_lload_n hx hb dX11_checksum_80 rfl (lv_at hl 1 rfl) ?_
          obtain rfl := Option.some.inj h
          exact b_lret hQ hx hb hr hlk hw rfl dX11_checksum_81
        · rw [if_neg hc64] at h
          refine lv_aload_n hx hb dX11_checksum_67 rfl (lv_at hl 0 rfl) ?_
          refine lv_lload_n hx hb dX11_checksum_68 rfl (lv_at hl 1 rfl) ?_
          refine lv_iload_n hx hb dX11_checksum_69 rfl (lv_at hl 2 rfl) ?_
          obtain ⟨r27, er27, h⟩ := g_cl_some h
          refine b_callV hx hb hml hown hT hK hA hw mk_X11_352 (c_X11_moreOfPage l D g a o pasts length printed told state x12 x13 x14 x15 bestFree bestTurned bestFirst bestSecond v spare past kept isKept text paper r1.2.2.1 r1.2.2.2.1 r1.2.2.2.2.1 r1.2.2.2.2.2.1 r1.2.2.2.2.2.2.1 r1.2.2.2.2.2.2.2 f16 f17 f18 f19 f20 f21 f22 f23 f24 f25 tried aside y10 x11 r27 er27) [0] [] rfl (by decide) 0 0 rfl rfl rfl rfl hl.1 [] rfl (Nat.le_of_ble_eq_true rfl) ⟨Nat.le_of_ble_eq_true rfl, Nat.le_of_ble_eq_true rfl⟩ ⟨Nat.zero_le _, Nat.zero_le _⟩ dX11_checksum_70 (wb' := [k_Model g a o pasts length printed told state r27.2.1 r27.2.2.1 r27.2.2.2.1 r27.2.2.2.2.1 bestFree bestTurned bestFirst bestSecond v spare past kept isKept text paper r1.2.2.1 r1.2.2.2.1 r1.2.2.2.2.1 r1.2.2.2.2.2.1 r1.2.2.2.2.2.2.1 r1.2.2.2.2.2.2.2 r27.2.2.2.2.2.1 r27.2.2.2.2.2.2.1 r27.2.2.2.2.2.2.2.1 r27.2.2.2.2.2.2.2.2.1 r27.2.2.2.2.2.2.2.2.2.1 r27.2.2.2.2.2.2.2.2.2.2.1 r27.2.2.2.2.2.2.2.2.2.2.2.1 r27.2.2.2.2.2.2.2.2.2.2.2.2.1 r27.2.2.2.2.2.2.2.2.2.2.2.2.2.1 r27.2.2.2.2.2.2.2.2.2.2.2.2.2.2 tried aside]) rfl b_e0 1 rfl (by decide) (st2 := [.long r27.1]) rfl (fun H locs hw => ?_)
          refine lv_lstore_n (lv' := [(1, .long r27.1), (0, .ref (a o)), (3, .int x11)]) hx hb dX11_checksum_73 rfl hl (by decide) rfl (fun ls hl => ?_)
          obtain ⟨x28, ex28, h⟩ := g_bd_nm h
          refine lv_iinc (v := x28) (lv' := [(3, .int x28), (1, .long r27.1), (0, .ref (a o))]) hx hb dX11_checksum_74 hl (k := 2) rfl (by rw [ex28]; rfl) (by decide) rfl (fun ls hl => ?_)
          refine lv_goto (tgt := 56) hx hb dX11_checksum_77 (by decide) ?_
          exact ih56 r27.1 x28 r27.2.1 r27.2.2.1 r27.2.2.2.1 r27.2.2.2.2.1 r27.2.2.2.2.2.1 r27.2.2.2.2.2.2.1 r27.2.2.2.2.2.2.2.1 r27.2.2.2.2.2.2.2.2.1 r27.2.2.2.2.2.2.2.2.2.1 r27.2.2.2.2.2.2.2.2.2.2.1 r27.2.2.2.2.2.2.2.2.2.2.2.1 r27.2.2.2.2.2.2.2.2.2.2.2.2.1 r27.2.2.2.2.2.2.2.2.2.2.2.2.2.1 r27.2.2.2.2.2.2.2.2.2.2.2.2.2.2 _ _ _ hw (lv_sub hl [2, 1, 0] rfl) h
    exact hL56 g_fuel y9 (0 : Int32) x5 x6 boxes frees boxX boxY boxW boxH freeAtX freeAtY freeW freeH begins ends _ _ _ hw (lv_sub hl [2, 1, 0] rfl) h
  have hL19 : ∀ (n : Nat) (y29 : Int64) (x30 : Int32) (x31 : Int32) (x32 : Int32) (H : Heap) (locs : List Loc) (ls : Array Slot), b_Wd D A s.heap H locs [k_Model g a o pasts length printed told state x31 x32 boxes frees bestFree bestTurned bestFirst bestSecond v spare past kept isKept text paper r1.2.2.1 r1.2.2.2.1 r1.2.2.2.2.1 r1.2.2.2.2.2.1 r1.2.2.2.2.2.2.1 r1.2.2.2.2.2.2.2 boxX boxY boxW boxH freeAtX freeAtY freeW freeH begins ends tried aside] → lv_has ls 4 [(0, .ref (a o)), (1, .long y29), (3, .int x30)] → f_X11_checksum_L19 v r1 k42_6 n y29 x30 x31 x32 = some u → W p l e (g_rm 6 147) s m args below meth c H locs 0 0 Q (F0 m 19 ls []) := by
    intro n
    induction n with
    | zero =>
      intro y29 x30 x31 x32 H locs ls hw hl h
      cases (show none = some u from h)
    | succ n ih19 =>
      intro y29 x30 x31 x32 H locs ls hw hl h
      rw [f_X11_checksum_L19] at h
      refine lv_iload_n hx hb dX11_checksum_19 rfl (lv_at hl 2 rfl) ?_
      refine lv_aload_n hx hb dX11_checksum_20 rfl (lv_at hl 0 rfl) ?_
      refine b_get hx hb hT hK hown fl_X11_7 hw 0 0 rfl rfl (v := .ref (a (o+1))) rfl dX11_checksum_21 ?_
      refine lv_iconst (v := 0) hx hb dX11_checksum_24 (by decide) ?_
      obtain ⟨x33, ex33, hix33, h⟩ := g_rd_some h
      refine b_iald hx hb hK hw 0 1 rfl (f := v) rfl hix33 ex33 dX11_checksum_25 ?_
      refine lv_icmp_ge (tgt := 42) hx hb dX11_checksum_26 (by decide) (fun hc26 => ?_) (fun hc26 => ?_)
      · rw [if_pos hc26] at h
        exact hk42_6 y29 x31 x32 _ _ _ hw (lv_sub hl [0, 1] rfl) h
      · rw [if_neg hc26] at h
        refine lv_aload_n hx hb dX11_checksum_29 rfl (lv_at hl 0 rfl) ?_
        refine lv_lload_n hx hb dX11_checksum_30 rfl (lv_at hl 1 rfl) ?_
        refine lv_iload_n hx hb dX11_checksum_31 rfl (lv_at hl 2 rfl) ?_
        obtain ⟨r34, er34, h⟩ := g_cl_some h
        refine b_callV hx hb hml hown hT hK hA hw mk_X11_349 (c_X11_moreOf l D g a o pasts length printed told state x31 x32 boxes frees bestFree bestTurned bestFirst bestSecond v spare past kept isKept text paper r1.2.2.1 r1.2.2.2.1 r1.2.2.2.2.1 r1.2.2.2.2.2.1 r1.2.2.2.2.2.2.1 r1.2.2.2.2.2.2.2 boxX boxY boxW boxH freeAtX freeAtY freeW freeH begins ends tried aside y29 x30 r34 er34) [0] [] rfl (by decide) 0 0 rfl rfl rfl rfl hl.1 [] rfl (Nat.le_of_ble_eq_true rfl) ⟨Nat.le_of_ble_eq_true rfl, Nat.le_of_ble_eq_true rfl⟩ ⟨Nat.zero_le _, Nat.zero_le _⟩ dX11_checksum_32 (wb' := [k_Model g a o pasts length printed told state r34.2.1 r34.2.2 boxes frees bestFree bestTurned bestFirst bestSecond v spare past kept isKept text paper r1.2.2.1 r1.2.2.2.1 r1.2.2.2.2.1 r1.2.2.2.2.2.1 r1.2.2.2.2.2.2.1 r1.2.2.2.2.2.2.2 boxX boxY boxW boxH freeAtX freeAtY freeW freeH begins ends tried aside]) rfl b_e0 1 rfl (by decide) (st2 := [.long r34.1]) rfl (fun H locs hw => ?_)
        refine lv_lstore_n (lv' := [(1, .long r34.1), (0, .ref (a o)), (3, .int x30)]) hx hb dX11_checksum_35 rfl hl (by decide) rfl (fun ls hl => ?_)
        obtain ⟨x35, ex35, h⟩ := g_bd_nm h
        refine lv_iinc (v := x35) (lv' := [(3, .int x35), (1, .long r34.1), (0, .ref (a o))]) hx hb dX11_checksum_36 hl (k := 2) rfl (by rw [ex35]; rfl) (by decide) rfl (fun ls hl => ?_)
        refine lv_goto (tgt := 19) hx hb dX11_checksum_39 (by decide) ?_
        exact ih19 r34.1 x35 r34.2.1 r34.2.2 _ _ _ hw (lv_sub hl [2, 1, 0] rfl) h
  exact hL19 g_fuel y3 (0 : Int32) r1.1 r1.2.1 _ _ _ hw (lv_sub hl [2, 1, 0] rfl) h
