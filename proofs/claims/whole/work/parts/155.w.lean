set_option maxRecDepth 100000 in
set_option maxHeartbeats 4000000 in
theorem c_X11_freeHeight (l : Launch) (D : va_G) (g : Nat → ClassId) (a : Nat → Nat) (o : Nat) (pasts : Int32) (length : Int32) (printed : Int32) (told : Int32) (state : Int64) (backX : Int32) (backY : Int32) (boxes : Int32) (frees : Int32) (bestFree : Int32) (bestTurned : Int32) (bestFirst : Int32) (bestSecond : Int32) (v : (Nat → Int32)) (spare : (Nat → Int32)) (past : (Nat → Int32)) (kept : (Nat → Int32)) (isKept : (Nat → Int32)) (text : (Nat → Int32)) (paper : (Nat → Int32)) (left : (Nat → Int32)) (top : (Nat → Int32)) (wide : (Nat → Int32)) (high : (Nat → Int32)) (original : (Nat → Int32)) (turn : (Nat → Int32)) (boxX : (Nat → Int32)) (boxY : (Nat → Int32)) (boxW : (Nat → Int32)) (boxH : (Nat → Int32)) (freeAtX : (Nat → Int32)) (freeAtY : (Nat → Int32)) (freeW : (Nat → Int32)) (freeH : (Nat → Int32)) (begins : (Nat → Int32)) (ends : (Nat → Int32)) (tried : (Nat → Int32)) (aside : (Nat → Int32)) (i1 : Int32) (i2 : Int32) (u : Int32 × Int32 × Int32 × Int32 × Int32 × (Nat → Int32) × (Nat → Int32) × (Nat → Int32) × (Nat → Int32) × (Nat → Int32) × (Nat → Int32) × (Nat → Int32) × (Nat → Int32) × (Nat → Int32) × (Nat → Int32) × (Nat → Int32) × (Nat → Int32) × (Nat → Int32) × (Nat → Int32) × (Nat → Int32) × (Nat → Int32)) (h : f_X11_freeHeight backX backY boxes frees v left top wide high original turn boxX boxY boxW boxH freeAtX freeAtY freeW freeH begins ends i1 i2 = some u) : b_Ct l yX11_freeHeight cX11_freeHeight 3 (some .int) 6 146 D g [.ref (a o), .int i1, .int i2] [k_Model g a o pasts length printed told state backX backY boxes frees bestFree bestTurned bestFirst bestSecond v spare past kept isKept text paper left top wide high original turn boxX boxY boxW boxH freeAtX freeAtY freeW freeH begins ends tried aside] [k_Model g a o pasts length printed told state u.2.1 u.2.2.1 u.2.2.2.1 u.2.2.2.2.1 bestFree bestTurned bestFirst bestSecond v spare past kept isKept text paper u.2.2.2.2.2.1 u.2.2.2.2.2.2.1 u.2.2.2.2.2.2.2.1 u.2.2.2.2.2.2.2.2.1 u.2.2.2.2.2.2.2.2.2.1 u.2.2.2.2.2.2.2.2.2.2.1 u.2.2.2.2.2.2.2.2.2.2.2.1 u.2.2.2.2.2.2.2.2.2.2.2.2.1 u.2.2.2.2.2.2.2.2.2.2.2.2.2.1 u.2.2.2.2.2.2.2.2.2.2.2.2.2.2.1 u.2.2.2.2.2.2.2.2.2.2.2.2.2.2.2.1 u.2.2.2.2.2.2.2.2.2.2.2.2.2.2.2.2.1 u.2.2.2.2.2.2.2.2.2.2.2.2.2.2.2.2.2.1 u.2.2.2.2.2.2.2.2.2.2.2.2.2.2.2.2.2.2.1 u.2.2.2.2.2.2.2.2.2.2.2.2.2.2.2.2.2.2.2.1 u.2.2.2.2.2.2.2.2.2.2.2.2.2.2.2.2.2.2.2.2 tried aside] (some (.int u.1)) := by
  refine b_start RX11 (by decide) rfl (Nat.le_of_ble_eq_true rfl) rfl ?_
  intro p e s m args below meth c A ls Q hQ hx hb hr hlk hml hown hT hK hA hw hl
  have hl : lv_has ls 3 [(0, .ref (a o)), (1, .int i1), (2, .int i2)] := hl
  unfold f_X11_freeHeight at h
  refine lv_iload_n hx hb dX11_freeHeight_0 rfl (lv_at hl 2 rfl) ?_
  refine lv_iconst (v := 0) hx hb dX11_freeHeight_1 (by decide) ?_
  refine lv_aload_n hx hb dX11_freeHeight_2 rfl (lv_at hl 0 rfl) ?_
  refine lv_iload_n hx hb dX11_freeHeight_3 rfl (lv_at hl 1 rfl) ?_
  obtain ⟨r1, er1, h⟩ := g_cl_some h
  refine b_callV hx hb hml hown hT hK hA hw mk_X11_301 (c_X11_looks l D g a o pasts length printed told state backX backY boxes frees bestFree bestTurned bestFirst bestSecond v spare past kept isKept text paper left top wide high original turn boxX boxY boxW boxH freeAtX freeAtY freeW freeH begins ends tried aside i1 r1 er1) [0] [] rfl (by decide) 0 0 rfl rfl rfl rfl hl.1 [.int (0 : Int32), .int i2] rfl (Nat.le_of_ble_eq_true rfl) ⟨Nat.le_of_ble_eq_true rfl, Nat.le_of_ble_eq_true rfl⟩ ⟨Nat.zero_le _, Nat.zero_le _⟩ dX11_freeHeight_4 (wb' := [k_Model g a o pasts length printed told state r1.2.1 r1.2.2.1 r1.2.2.2.1 r1.2.2.2.2.1 bestFree bestTurned bestFirst bestSecond v spare past kept isKept text paper r1.2.2.2.2.2.1 r1.2.2.2.2.2.2.1 r1.2.2.2.2.2.2.2.1 r1.2.2.2.2.2.2.2.2.1 r1.2.2.2.2.2.2.2.2.2.1 r1.2.2.2.2.2.2.2.2.2.2.1 r1.2.2.2.2.2.2.2.2.2.2.2.1 r1.2.2.2.2.2.2.2.2.2.2.2.2.1 r1.2.2.2.2.2.2.2.2.2.2.2.2.2.1 r1.2.2.2.2.2.2.2.2.2.2.2.2.2.2.1 r1.2.2.2.2.2.2.2.2.2.2.2.2.2.2.2.1 r1.2.2.2.2.2.2.2.2.2.2.2.2.2.2.2.2.1 r1.2.2.2.2.2.2.2.2.2.2.2.2.2.2.2.2.2.1 r1.2.2.2.2.2.2.2.2.2.2.2.2.2.2.2.2.2.2.1 r1.2.2.2.2.2.2.2.2.2.2.2.2.2.2.2.2.2.2.2.1 r1.2.2.2.2.2.2.2.2.2.2.2.2.2.2.2.2.2.2.2.2 tried aside]) rfl b_e0 1 rfl (by decide) (st2 := [.int r1.1, .int (0 : Int32), .int i2]) rfl (fun H locs hw => ?_)
  refine lv_iconst (v := 1) hx hb dX11_freeHeight_7 (by decide) ?_
  refine lv_isub hx hb dX11_freeHeight_8 ?_
  refine b_callS hx hb hml hown hT hK hA hw mk_X11_86 (c_X11_in l D g i2 (0 : Int32) (r1.1 - (1 : Int32))) [] [0] rfl (by decide) rfl hl.1 [] rfl (Nat.le_of_ble_eq_true rfl) ⟨Nat.le_of_ble_eq_true rfl, Nat.le_of_ble_eq_true rfl⟩ ⟨Nat.zero_le _, Nat.zero_le _⟩ dX11_freeHeight_9 (wb' := [k_Model g a o pasts length printed told state r1.2.1 r1.2.2.1 r1.2.2.2.1 r1.2.2.2.2.1 bestFree bestTurned bestFirst bestSecond v spare past kept isKept text paper r1.2.2.2.2.2.1 r1.2.2.2.2.2.2.1 r1.2.2.2.2.2.2.2.1 r1.2.2.2.2.2.2.2.2.1 r1.2.2.2.2.2.2.2.2.2.1 r1.2.2.2.2.2.2.2.2.2.2.1 r1.2.2.2.2.2.2.2.2.2.2.2.1 r1.2.2.2.2.2.2.2.2.2.2.2.2.1 r1.2.2.2.2.2.2.2.2.2.2.2.2.2.1 r1.2.2.2.2.2.2.2.2.2.2.2.2.2.2.1 r1.2.2.2.2.2.2.2.2.2.2.2.2.2.2.2.1 r1.2.2.2.2.2.2.2.2.2.2.2.2.2.2.2.2.1 r1.2.2.2.2.2.2.2.2.2.2.2.2.2.2.2.2.2.1 r1.2.2.2.2.2.2.2.2.2.2.2.2.2.2.2.2.2.2.1 r1.2.2.2.2.2.2.2.2.2.2.2.2.2.2.2.2.2.2.2.1 r1.2.2.2.2.2.2.2.2.2.2.2.2.2.2.2.2.2.2.2.2 tried aside]) rfl (b_e1 rfl b_e0) 1 rfl (by decide) (st2 := [.int (f_X11_in i2 (0 : Int32) (r1.1 - (1 : Int32)))]) rfl (fun H locs hw => ?_)
  refine lv_if_eq (tgt := 24) hx hb dX11_freeHeight_12 (by decide) (fun hc12 => ?_) (fun hc12 => ?_)
  · rw [if_pos hc12] at h
    refine lv_iconst (v := -1) hx hb dX11_freeHeight_24 (by decide) ?_
    obtain rfl := Option.some.inj h
    exact b_iret hQ hx hb hr hlk hw rfl dX11_freeHeight_25
  · rw [if_neg hc12] at h
    refine lv_aload_n hx hb dX11_freeHeight_15 rfl (lv_at hl 0 rfl) ?_
    refine b_get hx hb hT hK hown fl_X11_71 hw 0 0 rfl rfl (v := .ref (a (o+21))) rfl dX11_freeHeight_16 ?_
    refine lv_iload_n hx hb dX11_freeHeight_19 rfl (lv_at hl 2 rfl) ?_
    obtain ⟨x2, ex2, hix2, h⟩ := g_rd_some h
    refine b_iald hx hb hK hw 0 21 rfl (f := r1.2.2.2.2.2.2.2.2.2.2.2.2.2.2.2.2.2.2.1) rfl hix2 ex2 dX11_freeHeight_20 ?_
    refine lv_goto (tgt := 25) hx hb dX11_freeHeight_21 (by decide) ?_
    obtain rfl := Option.some.inj h
    exact b_iret hQ hx hb hr hlk hw rfl dX11_freeHeight_25
set_option maxRecDepth 100000 in
set_option maxHeartbeats 4000000 in
theorem c_X11_fill (l : Launch) (D : va_G) (g : Nat → ClassId) (a : Nat → Nat) (o : Nat) (pasts : Int32) (length : Int32) (printed : Int32) (told : Int32) (state : Int64) (backX : Int32) (backY : Int32) (boxes : Int32) (frees : Int32) (bestFree : Int32) (bestTurned : Int32) (bestFirst : Int32) (bestSecond : Int32) (v : (Nat → Int32)) (spare : (Nat → Int32)) (past : (Nat → Int32)) (kept : (Nat → Int32)) (isKept : (Nat → Int32)) (text : (Nat → Int32)) (paper : (Nat → Int32)) (left : (Nat → Int32)) (top : (Nat → Int32)) (wide : (Nat → Int32)) (high : (Nat → Int32)) (original : (Nat → Int32)) (turn : (Nat → Int32)) (boxX : (Nat → Int32)) (boxY : (Nat → Int32)) (boxW : (Nat → Int32)) (boxH : (Nat → Int32)) (freeAtX : (Nat → Int32)) (freeAtY : (Nat → Int32)) (freeW : (Nat → Int32)) (freeH : (Nat → Int32)) (begins : (Nat → Int32)) (ends : (Nat → Int32)) (tried : (Nat → Int32)) (aside : (Nat → Int32)) (i1 : Int32) (i2 : Int32) (u : Int32 × Int32 × Int32 × (Nat → Int32) × (Nat → Int32) × (Nat → Int32) × (Nat → Int32) × (Nat → Int32) × (Nat → Int32)) (h : f_X11_fill backX backY v left top wide high original turn i1 i2 = some u) : b_Ct l yX11_fill cX11_fill 8 (some .int) 5 125 D g [.ref (a o), .int i1, .int i2] [k_Model g a o pasts length printed told state backX backY boxes frees bestFree bestTurned bestFirst bestSecond v spare past kept isKept text paper left top wide high original turn boxX boxY boxW boxH freeAtX freeAtY freeW freeH begins ends tried aside] [k_Model g a o pasts length printed told state u.2.1 u.2.2.1 boxes frees bestFree bestTurned bestFirst bestSecond v spare past kept isKept text paper u.2.2.2.1 u.2.2.2.2.1 u.2.2.2.2.2.1 u.2.2.2.2.2.2.1 u.2.2.2.2.2.2.2.1 u.2.2.2.2.2.2.2.2 boxX boxY boxW boxH freeAtX freeAtY freeW freeH begins ends tried aside] (some (.int u.1)) := by
  refine b_start RX11 (by decide) rfl (Nat.le_of_ble_eq_true rfl) rfl ?_
  intro p e s m args below meth c A ls Q hQ hx hb hr hlk hml hown hT hK hA hw hl
  have hl : lv_has ls 8 [(0, .ref (a o)), (1, .int i1), (2, .int i2)] := hl
  unfold f_X11_fill at h
  refine lv_aload_n hx hb dX11_fill_0 rfl (lv_at hl 0 rfl) ?_
  refine lv_iload_n hx hb dX11_fill_1 rfl (lv_at hl 1 rfl) ?_
  obtain ⟨r1, er1, h⟩ := g_cl_some h
  refine b_callV hx hb hml hown hT hK hA hw mk_X11_282 (c_X11_isPage l D g a o pasts length printed told state backX backY boxes frees bestFree bestTurned bestFirst bestSecond v spare past kept isKept text paper left top wide high original turn boxX boxY boxW boxH freeAtX freeAtY freeW freeH begins ends tried aside i1 r1 er1) [0] [] rfl (by decide) 0 0 rfl rfl rfl rfl hl.1 [] rfl (Nat.le_of_ble_eq_true rfl) ⟨Nat.le_of_ble_eq_true rfl, Nat.le_of_ble_eq_true rfl⟩ ⟨Nat.zero_le _, Nat.zero_le _⟩ dX11_fill_2 (wb' := [k_Model g a o pasts length printed told state backX backY boxes frees bestFree bestTurned bestFirst bestSecond v spare past kept isKept text paper left top wide high original turn boxX boxY boxW boxH freeAtX freeAtY freeW freeH begins ends tried aside]) rfl b_e0 1 rfl (by decide) (st2 := [.int r1]) rfl (fun H locs hw => ?_)
  refine lv_if_ne (tgt := 10) hx hb dX11_fill_5 (by decide) (fun hc5 => ?_) (fun hc5 => ?_)
  · rw [if_neg hc5] at h
    refine lv_aload_n hx hb dX11_fill_10 rfl (lv_at hl 0 rfl) ?_
    obtain ⟨r2, er2, h⟩ := g_cl_some h
    refine b_callV hx hb hml hown hT hK hA hw mk_X11_176 (c_X11_knows l D g a o pasts length printed told state backX backY boxes frees bestFree bestTurned bestFirst bestSecond v spare past kept isKept text paper left top wide high original turn boxX boxY boxW boxH freeAtX freeAtY freeW freeH begins ends tried aside r2 er2) [0] [] rfl (by decide) 0 0 rfl rfl rfl rfl hl.1 [] rfl (Nat.le_of_ble_eq_true rfl) ⟨Nat.le_of_ble_eq_true rfl, Nat.le_of_ble_eq_true rfl⟩ ⟨Nat.zero_le _, Nat.zero_le _⟩ dX11_fill_11 (wb' := [k_Model g a o pasts length printed told state r2.1 r2.2.1 boxes frees bestFree bestTurned bestFirst bestSecond v spare past kept isKept text paper r2.2.2.1 r2.2.2.2.1 r2.2.2.2.2.1 r2.2.2.2.2.2.1 r2.2.2.2.2.2.2.1 r2.2.2.2.2.2.2.2 boxX boxY boxW boxH freeAtX freeAtY freeW freeH begins ends tried aside]) rfl b_e0 1 rfl (by decide) (st2 := []) rfl (fun H locs hw => ?_)
    refine lv_iconst (v := 0) hx hb dX11_fill_14 (by decide) ?_
    refine lv_istore_n (lv' := [(3, .int (0 : Int32)), (0, .ref (a o)), (1, .int i1), (2, .int i2)]) hx hb dX11_fill_15 rfl hl (by decide) rfl (fun ls hl => ?_)
    refine lv_iconst (v := 0) hx hb dX11_fill_16 (by decide) ?_
    refine lv_istore (lv' := [(4, .int (0 : Int32)), (3, .int (0 : Int32)), (0, .ref (a o)), (1, .int i1), (2, .int i2)]) hx hb dX11_fill_17 hl (by decide) rfl (fun ls hl => ?_)
    obtain ⟨k73_3, ek73_3, h⟩ := g_jn_nm h
    have hk73_3 : ∀ (x3 : Int32) (H : Heap) (locs : List Loc) (ls : Array Slot), b_Wd D A s.heap H locs [k_Model g a o pasts length printed told state r2.1 r2.2.1 boxes frees bestFree bestTurned bestFirst bestSecond v spare past kept isKept text paper r2.2.2.1 r2.2.2.2.1 r2.2.2.2.2.1 r2.2.2.2.2.2.1 r2.2.2.2.2.2.2.1 r2.2.2.2.2.2.2.2 boxX boxY boxW boxH freeAtX freeAtY freeW freeH begins ends tried aside] → lv_has ls 8 [(0, .ref (a o)), (2, .int i2), (3, .int x3)] → k73_3 x3 = some u → W p l e (g_rm 5 125) s m args below meth c H locs 0 0 Q (F0 m 73 ls []) := by
      intro x3 H locs ls hw hl h
      subst ek73_3
      dsimp only at h
      refine lv_aload_n hx hb dX11_fill_73 rfl (lv_at hl 0 rfl) ?_
      refine b_get hx hb hT hK hown fl_X11_7 hw 0 0 rfl rfl (v := .ref (a (o+1))) rfl dX11_fill_74 ?_
      refine lv_iconst (v := 1) hx hb dX11_fill_77 (by decide) ?_
      obtain ⟨x5, ex5, hix5, h⟩ := g_rd_some h
      refine b_iald hx hb hK hw 0 1 rfl (f := v) rfl hix5 ex5 dX11_fill_78 ?_
      refine lv_aload_n hx hb dX11_fill_79 rfl (lv_at hl 0 rfl) ?_
      refine b_get hx hb hT hK hown fl_X11_7 hw 0 0 rfl rfl (v := .ref (a (o+1))) rfl dX11_fill_80 ?_
      refine lv_iconst (v := 2) hx hb dX11_fill_83 (by decide) ?_
      obtain ⟨x6, ex6, hix6, h⟩ := g_rd_some h
      refine b_iald hx hb hK hw 0 1 rfl (f := v) rfl hix6 ex6 dX11_fill_84 ?_
      refine lv_imul hx hb dX11_fill_85 ?_
      obtain ⟨x7, ex7, h⟩ := g_bd_nm h
      refine g_topi ex7 ?_
      refine lv_istore (lv' := [(4, .int x7), (0, .ref (a o)), (2, .int i2), (3, .int x3)]) hx hb dX11_fill_86 hl (by decide) rfl (fun ls hl => ?_)
      refine lv_iload_n hx hb dX11_fill_88 rfl (lv_at hl 3 rfl) ?_
      refine lv_istore (lv' := [(5, .int x3), (4, .int x7), (0, .ref (a o)), (2, .int i2), (3, .int x3)]) hx hb dX11_fill_89 hl (by decide) rfl (fun ls hl => ?_)
      refine lv_iload hx hb dX11_fill_91 (lv_at hl 1 rfl) ?_
      refine lv_istore (lv' := [(6, .int x7), (5, .int x3), (4, .int x7), (0, .ref (a o)), (2, .int i2), (3, .int x3)]) hx hb dX11_fill_93 hl (by decide) rfl (fun ls hl => ?_)
      obtain ⟨k118_8, ek118_8, h⟩ := g_jn_nm h
      have hk118_8 : ∀ (x8 : Int32) (H : Heap) (locs : List Loc) (ls : Array Slot), b_Wd D A s.heap H locs [k_Model g a o pasts length printed told state r2.1 r2.2.1 boxes frees bestFree bestTurned bestFirst bestSecond v spare past kept isKept text paper r2.2.2.1 r2.2.2.2.1 r2.2.2.2.2.1 r2.2.2.2.2.2.1 r2.2.2.2.2.2.2.1 r2.2.2.2.2.2.2.2 boxX boxY boxW boxH freeAtX freeAtY freeW freeH begins ends tried aside] → lv_has ls 8 [(2, .int i2), (3, .int x3), (4, .int x7), (5, .int x8)] → k118_8 x8 = some u → W p l e (g_rm 5 125) s m args below meth c H locs 0 0 Q (F0 m 118 ls []) := by
        intro x8 H locs ls hw hl h
        subst ek118_8
        dsimp only at h
        refine lv_iload_n hx hb dX11_fill_118 rfl (lv_at hl 0 rfl) ?_
        refine lv_if_eq (tgt := 130) hx hb dX11_fill_119 (by decide) (fun hc119 => ?_) (fun hc119 => ?_)
        · rw [if_pos hc119] at h
          refine lv_iload_n hx hb dX11_fill_130 rfl (lv_at hl 1 rfl) ?_
          refine lv_iload hx hb dX11_fill_131 (lv_at hl 3 rfl) ?_
          obtain ⟨z10, h⟩ := g_nz_some h
          refine lv_idiv hx hb dX11_fill_133 z10 ?_
          obtain rfl := Option.some.inj h
          exact b_iret hQ hx hb hr hlk hw rfl dX11_fill_134
        · rw [if_neg hc119] at h
          refine lv_iload hx hb dX11_fill_122 (lv_at hl 2 rfl) ?_
          refine lv_iload hx hb dX11_fill_124 (lv_at hl 3 rfl) ?_
          obtain ⟨z11, h⟩ := g_nz_some h
          refine lv_idiv hx hb dX11_fill_126 z11 ?_
          refine lv_goto (tgt := 134) hx hb dX11_fill_127 (by decide) ?_
          obtain rfl := Option.some.inj h
          exact b_iret hQ hx hb hr hlk hw rfl dX11_fill_134
      have hL95 : ∀ (n : Nat) (x12 : Int32) (x13 : Int32) (H : Heap) (locs : List Loc) (ls : Array Slot), b_Wd D A s.heap H locs [k_Model g a o pasts length printed told state r2.1 r2.2.1 boxes frees bestFree bestTurned bestFirst bestSecond v spare past kept isKept text paper r2.2.2.1 r2.2.2.2.1 r2.2.2.2.2.1 r2.2.2.2.2.2.1 r2.2.2.2.2.2.2.1 r2.2.2.2.2.2.2.2 boxX boxY boxW boxH freeAtX freeAtY freeW freeH begins ends tried aside] → lv_has ls 8 [(2, .int i2), (3, .int x3), (4, .int x7), (5, .int x12), (6, .int x13)] → f_X11_fill_L95 k118_8 n x12 x13 = some u → W p l e (g_rm 5 125) s m args below meth c H locs 0 0 Q (F0 m 95 ls []) := by
        intro n
        induction n with
        | zero =>
          intro x12 x13 H locs ls hw hl h
          cases (show none = some u from h)
        | succ n ih95 =>
          intro x12 x13 H locs ls hw hl h
          rw [f_X11_fill_L95] at h
          refine lv_iload hx hb dX11_fill_95 (lv_at hl 4 rfl) ?_
          refine lv_if_eq (tgt := 118) hx hb dX11_fill_97 (by decide) (fun hc97 => ?_) (fun hc97 => ?_)
          · rw [if_pos hc97] at h
            exact hk118_8 x12 _ _ _ hw (lv_sub hl [0, 1, 2, 3] rfl) h
          · rw [if_neg hc97] at h
            refine lv_iload hx hb dX11_fill_100 (lv_at hl 3 rfl) ?_
            refine lv_iload hx hb dX11_fill_102 (lv_at hl 4 rfl) ?_
            obtain ⟨z14, h⟩ := g_nz_some h
            refine g_irem hx hb dX11_fill_104 z14 ?_
            obtain ⟨x15, ex15, h⟩ := g_bd_nm h
            refine g_topi ex15 ?_
            refine lv_istore (lv' := [(7, .int x15), (2, .int i2), (3, .int x3), (4, .int x7), (5, .int x12), (6, .int x13)]) hx hb dX11_fill_105 hl (by decide) rfl (fun ls hl => ?_)
            refine lv_iload hx hb dX11_fill_107 (lv_at hl 5 rfl) ?_
            refine lv_istore (lv' := [(5, .int x13), (7, .int x15), (2, .int i2), (3, .int x3), (4, .int x7), (6, .int x13)]) hx hb dX11_fill_109 hl (by decide) rfl (fun ls hl => ?_)
            refine lv_iload hx hb dX11_fill_111 (lv_at hl 1 rfl) ?_
            refine lv_istore (lv' := [(6, .int x15), (5, .int x13), (7, .int x15), (2, .int i2), (3, .int x3), (4, .int x7)]) hx hb dX11_fill_113 hl (by decide) rfl (fun ls hl => ?_)
            refine lv_goto (tgt := 95) hx hb dX11_fill_115 (by decide) ?_
            exact ih95 x13 x15 _ _ _ hw (lv_sub hl [3, 4, 5, 1, 0] rfl) h
      exact hL95 g_fuel x3 x7 _ _ _ hw (lv_sub hl [4, 5, 2, 1, 0] rfl) h
    have hL19 : ∀ (n : Nat) (x16 : Int32) (x17 : Int32) (H : Heap) (locs : List Loc) (ls : Array Slot), b_Wd D A s.heap H locs [k_Model g a o pasts length printed told state r2.1 r2.2.1 boxes frees bestFree bestTurned bestFirst bestSecond v spare past kept isKept text paper r2.2.2.1 r2.2.2.2.1 r2.2.2.2.2.1 r2.2.2.2.2.2.1 r2.2.2.2.2.2.2.1 r2.2.2.2.2.2.2.2 boxX boxY boxW boxH freeAtX freeAtY freeW freeH begins ends tried aside] → lv_has ls 8 [(0, .ref (a o)), (1, .int i1), (2, .int i2), (3, .int x16), (4, .int x17)] → f_X11_fill_L19 v i1 r2 k73_3 n x16 x17 = some u → W p l e (g_rm 5 125) s m args below meth c H locs 0 0 Q (F0 m 19 ls []) := by
      intro n
      induction n with
      | zero =>
        intro x16 x17 H locs ls hw hl h
        cases (show none = some u from h)
      | succ n ih19 =>
        intro x16 x17 H locs ls hw hl h
        rw [f_X11_fill_L19] at h
        refine lv_iload hx hb dX11_fill_19 (lv_at hl 4 rfl) ?_
        refine lv_aload_n hx hb dX11_fill_21 rfl (lv_at hl 0 rfl) ?_
        refine b_get hx hb hT hK hown fl_X11_7 hw 0 0 rfl rfl (v := .ref (a (o+1))) rfl dX11_fill_22 ?_
        refine lv_iconst (v := 0) hx hb dX11_fill_25 (by decide) ?_
        obtain ⟨x18, ex18, hix18, h⟩ := g_rd_some h
        refine b_iald hx hb hK hw 0 1 rfl (f := v) rfl hix18 ex18 dX11_fill_26 ?_
        refine lv_icmp_ge (tgt := 73) hx hb dX11_fill_27 (by decide) (fun hc27 => ?_) (fun hc27 => ?_)
        · rw [if_pos hc27] at h
          exact hk73_3 x16 _ _ _ hw (lv_sub hl [0, 2, 3] rfl) h
        · rw [if_neg hc27] at h
          refine lv_iload_n hx hb dX11_fill_30 rfl (lv_at hl 3 rfl) ?_
          refine lv_aload_n hx hb dX11_fill_31 rfl (lv_at hl 0 rfl) ?_
          refine b_get hx hb hT hK hown fl_X11_7 hw 0 0 rfl rfl (v := .ref (a (o+1))) rfl dX11_fill_32 ?_
          refine lv_iload hx hb dX11_fill_35 (lv_at hl 4 rfl) ?_
          refine lv_iconst (v := 3) hx hb dX11_fill_37 (by decide) ?_
          refine b_callS hx hb hml hown hT hK hA hw mk_X11_94 (c_X11_at l D g x17 (3 : Int32)) [] [0] rfl (by decide) rfl hl.1 [.ref (a (o+1)), .int x16] rfl (Nat.le_of_ble_eq_true rfl) ⟨Nat.le_of_ble_eq_true rfl, Nat.le_of_ble_eq_true rfl⟩ ⟨Nat.zero_le _, Nat.zero_le _⟩ dX11_fill_38 (wb' := [k_Model g a o pasts length printed told state r2.1 r2.2.1 boxes frees bestFree bestTurned bestFirst bestSecond v spare past kept isKept text paper r2.2.2.1 r2.2.2.2.1 r2.2.2.2.2.1 r2.2.2.2.2.2.1 r2.2.2.2.2.2.2.1 r2.2.2.2.2.2.2.2 boxX boxY boxW boxH freeAtX freeAtY freeW freeH begins ends tried aside]) rfl (b_e1 rfl b_e0) 1 rfl (by decide) (st2 := [.int (f_X11_at x17 (3 : Int32)), .ref (a (o+1)), .int x16]) rfl (fun H locs hw => ?_)
          obtain ⟨x19, ex19, hix19, h⟩ := g_rd_some h
          refine b_iald hx hb hK hw 0 1 rfl (f := v) rfl hix19 ex19 dX11_fill_41 ?_
          refine lv_iload_n hx hb dX11_fill_42 rfl (lv_at hl 1 rfl) ?_
          obtain ⟨j65_20, ej65_20, h⟩ := g_jn_nm h
          have hj65_20 : ∀ (x20 : Int32) (H : Heap) (locs : List Loc) (ls : Array Slot), b_Wd D A s.heap H locs [k_Model g a o pasts length printed told state r2.1 r2.2.1 boxes frees bestFree bestTurned bestFirst bestSecond v spare past kept isKept text paper r2.2.2.1 r2.2.2.2.1 r2.2.2.2.2.1 r2.2.2.2.2.2.1 r2.2.2.2.2.2.2.1 r2.2.2.2.2.2.2.2 boxX boxY boxW boxH freeAtX freeAtY freeW freeH begins ends tried aside] → lv_has ls 8 [(0, .ref (a o)), (1, .int i1), (2, .int i2), (4, .int x17)] → j65_20 x20 = some u → W p l e (g_rm 5 125) s m args below meth c H locs 0 0 Q (F0 m 65 ls [.int x20, .int x16]) := by
            intro x20 H locs ls hw hl h
            subst ej65_20
            dsimp only at h
            refine lv_iadd hx hb dX11_fill_65 ?_
            obtain ⟨x22, ex22, h⟩ := g_bd_nm h
            refine g_topi ex22 ?_
            refine lv_istore_n (lv' := [(3, .int x22), (0, .ref (a o)), (1, .int i1), (2, .int i2), (4, .int x17)]) hx hb dX11_fill_66 rfl hl (by decide) rfl (fun ls hl => ?_)
            obtain ⟨x23, ex23, h⟩ := g_bd_nm h
            refine lv_iinc (v := x23) (lv' := [(4, .int x23), (3, .int x22), (0, .ref (a o)), (1, .int i1), (2, .int i2)]) hx hb dX11_fill_67 hl (k := 4) rfl (by rw [ex23]; rfl) (by decide) rfl (fun ls hl => ?_)
            refine lv_goto (tgt := 19) hx hb dX11_fill_70 (by decide) ?_
            exact ih19 x22 x23 _ _ _ hw (lv_sub hl [2, 3, 4, 1, 0] rfl) h
          refine lv_icmp_ne (tgt := 64) hx hb dX11_fill_43 (by decide) (fun hc43 => ?_) (fun hc43 => ?_)
          · rw [if_neg hc43] at h
            refine lv_iconst (v := 0) hx hb dX11_fill_64 (by decide) ?_
            exact hj65_20 (0 : Int32) _ _ _ hw (lv_sub hl [0, 1, 2, 4] rfl) h
          · rw [if_pos hc43] at h
            refine lv_aload_n hx hb dX11_fill_46 rfl (lv_at hl 0 rfl) ?_
            refine b_get hx hb hT hK hown fl_X11_38 hw 0 0 rfl rfl (v := .ref (a (o+10))) rfl dX11_fill_47 ?_
            refine lv_iload hx hb dX11_fill_50 (lv_at hl 4 rfl) ?_
            obtain ⟨x24, ex24, hix24, h⟩ := g_rd_some h
            refine b_iald hx hb hK hw 0 10 rfl (f := r2.2.2.2.2.1) rfl hix24 ex24 dX11_fill_52 ?_
            refine lv_aload_n hx hb dX11_fill_53 rfl (lv_at hl 0 rfl) ?_
            refine b_get hx hb hT hK hown fl_X11_41 hw 0 0 rfl rfl (v := .ref (a (o+11))) rfl dX11_fill_54 ?_
            refine lv_iload hx hb dX11_fill_57 (lv_at hl 4 rfl) ?_
            obtain ⟨x25, ex25, hix25, h⟩ := g_rd_some h
            refine b_iald hx hb hK hw 0 11 rfl (f := r2.2.2.2.2.2.1) rfl hix25 ex25 dX11_fill_59 ?_
            refine lv_imul hx hb dX11_fill_60 ?_
            refine lv_goto (tgt := 65) hx hb dX11_fill_61 (by decide) ?_
            exact hj65_20 (x24 * x25) _ _ _ hw (lv_sub hl [0, 1, 2, 4] rfl) h
    exact hL19 g_fuel (0 : Int32) (0 : Int32) _ _ _ hw (lv_sub hl [2, 3, 4, 1, 0] rfl) h
  · rw [if_pos hc5] at h
    refine lv_iconst (v := -1) hx hb dX11_fill_8 (by decide) ?_
    obtain rfl := Option.some.inj h
    exact b_iret hQ hx hb hr hlk hw rfl dX11_fill_9
set_option maxRecDepth 100000 in
set_option maxHeartbeats 4000000 in
theorem c_X11_unplaced (l : Launch) (D : va_G) (g : Nat → ClassId) (a : Nat → Nat) (o : Nat) (pasts : Int32) (length : Int32) (printed : Int32) (told : Int32) (state : Int64) (backX : Int32) (backY : Int32) (boxes : Int32) (frees : Int32) (bestFree : Int32) (bestTurned : Int32) (bestFirst : Int32) (bestSecond : Int32) (v : (Nat → Int32)) (spare : (Nat → Int32)) (past : (Nat → Int32)) (kept : (Nat → Int32)) (isKept : (Nat → Int32)) (text : (Nat → Int32)) (paper : (Nat → Int32)) (left : (Nat → Int32)) (top : (Nat → Int32)) (wide : (Nat → Int32)) (high : (Nat → Int32)) (original : (Nat → Int32)) (turn : (Nat → Int32)) (boxX : (Nat → Int32)) (boxY : (Nat → Int32)) (boxW : (Nat → Int32)) (boxH : (Nat → Int32)) (freeAtX : (Nat → Int32)) (freeAtY : (Nat → Int32)) (freeW : (Nat → Int32)) (freeH : (Nat → Int32)) (begins : (Nat → Int32)) (ends : (Nat → Int32)) (tried : (Nat → Int32)) (aside : (Nat → Int32)) (u : Int32 × Int32 × Int32 × (Nat → Int32) × (Nat → Int32) × (Nat → Int32) × (Nat → Int32) × (Nat → Int32) × (Nat → Int32)) (h : f_X11_unplaced backX backY v left top wide high original turn = some u) : b_Ct l yX11_unplaced cX11_unplaced 3 (some .int) 5 125 D g [.ref (a o)] [k_Model g a o pasts length printed told state backX backY boxes frees bestFree bestTurned bestFirst bestSecond v spare past kept isKept text paper left top wide high original turn boxX boxY boxW boxH freeAtX freeAtY freeW freeH begins ends tried aside] [k_Model g a o pasts length printed told state u.2.1 u.2.2.1 boxes frees bestFree bestTurned bestFirst bestSecond v spare past kept isKept text paper u.2.2.2.1 u.2.2.2.2.1 u.2.2.2.2.2.1 u.2.2.2.2.2.2.1 u.2.2.2.2.2.2.2.1 u.2.2.2.2.2.2.2.2 boxX boxY boxW boxH freeAtX freeAtY freeW freeH begins ends tried aside] (some (.int u.1)) := by
  refine b_start RX11 (by decide) rfl (Nat.le_of_ble_eq_true rfl) rfl ?_
  intro p e s m args below meth c A ls Q hQ hx hb hr hlk hml hown hT hK hA hw hl
  have hl : lv_has ls 3 [(0, .ref (a o))] := hl
  unfold f_X11_unplaced at h
  refine lv_aload_n hx hb dX11_unplaced_0 rfl (lv_at hl 0 rfl) ?_
  obtain ⟨r1, er1, h⟩ := g_cl_some h
  refine b_callV hx hb hml hown hT hK hA hw mk_X11_176 (c_X11_knows l D g a o pasts length printed told state backX backY boxes frees bestFree bestTurned bestFirst bestSecond v spare past kept isKept text paper left top wide high original turn boxX boxY boxW boxH freeAtX freeAtY freeW freeH begins ends tried aside r1 er1) [0] [] rfl (by decide) 0 0 rfl rfl rfl rfl hl.1 [] rfl (Nat.le_of_ble_eq_true rfl) ⟨Nat.le_of_ble_eq_true rfl, Nat.le_of_ble_eq_true rfl⟩ ⟨Nat.zero_le _, Nat.zero_le _⟩ dX11_unplaced_1 (wb' := [k_Model g a o pasts length printed told state r1.1 r1.2.1 boxes frees bestFree bestTurned bestFirst bestSecond v spare past kept isKept text paper r1.2.2.1 r1.2.2.2.1 r1.2.2.2.2.1 r1.2.2.2.2.2.1 r1.2.2.2.2.2.2.1 r1.2.2.2.2.2.2.2 boxX boxY boxW boxH freeAtX freeAtY freeW freeH begins ends tried aside]) rfl b_e0 1 rfl (by decide) (st2 := []) rfl (fun H locs hw => ?_)
  refine lv_iconst (v := 0) hx hb dX11_unplaced_4 (by decide) ?_
  refine lv_istore_n (lv' := [(1, .int (0 : Int32)), (0, .ref (a o))]) hx hb dX11_unplaced_5 rfl hl (by decide) rfl (fun ls hl => ?_)
  refine lv_iconst (v := 0) hx hb dX11_unplaced_6 (by decide) ?_
  refine lv_istore_n (lv' := [(2, .int (0 : Int32)), (1, .int (0 : Int32)), (0, .ref (a o))]) hx hb dX11_unplaced_7 rfl hl (by decide) rfl (fun ls hl => ?_)
  have hL8 : ∀ (n : Nat) (x2 : Int32) (x3 : Int32) (H : Heap) (locs : List Loc) (ls : Array Slot), b_Wd D A s.heap H locs [k_Model g a o pasts length printed told state r1.1 r1.2.1 boxes frees bestFree bestTurned bestFirst bestSecond v spare past kept isKept text paper r1.2.2.1 r1.2.2.2.1 r1.2.2.2.2.1 r1.2.2.2.2.2.1 r1.2.2.2.2.2.2.1 r1.2.2.2.2.2.2.2 boxX boxY boxW boxH freeAtX freeAtY freeW freeH begins ends tried aside] → lv_has ls 3 [(0, .ref (a o)), (1, .int x2), (2, .int x3)] → f_X11_unplaced_L8 v r1 n x2 x3 = some u → W p l e (g_rm 5 125) s m args below meth c H locs 0 0 Q (F0 m 8 ls []) := by
    intro n
    induction n with
    | zero =>
      intro x2 x3 H locs ls hw hl h
      cases (show none = some u from h)
    | succ n ih8 =>
      intro x2 x3 H locs ls hw hl h
      rw [f_X11_unplaced_L8] at h
      refine lv_iload_n hx hb dX11_unplaced_8 rfl (lv_at hl 2 rfl) ?_
      refine lv_aload_n hx hb dX11_unplaced_9 rfl (lv_at hl 0 rfl) ?_
      refine b_get hx hb hT hK hown fl_X11_7 hw 0 0 rfl rfl (v := .ref (a (o+1))) rfl dX11_unplaced_10 ?_
      refine lv_iconst (v := 0) hx hb dX11_unplaced_13 (by decide) ?_
      obtain ⟨x4, ex4, hix4, h⟩ := g_rd_some h
      refine b_iald hx hb hK hw 0 1 rfl (f := v) rfl hix4 ex4 dX11_unplaced_14 ?_
      refine lv_icmp_ge (tgt := 53) hx hb dX11_unplaced_15 (by decide) (fun hc15 => ?_) (fun hc15 => ?_)
      · rw [if_pos hc15] at h
        refine lv_iload_n hx hb dX11_unplaced_53 rfl (lv_at hl 1 rfl) ?_
        obtain rfl := Option.some.inj h
        exact b_iret hQ hx hb hr hlk hw rfl dX11_unplaced_54
      · rw [if_neg hc15] at h
        refine lv_iload_n hx hb dX11_unplaced_18 rfl (lv_at hl 1 rfl) ?_
        refine lv_aload_n hx hb dX11_unplaced_19 rfl (lv_at hl 0 rfl) ?_
        refine lv_iload_n hx hb dX11_unplaced_20 rfl (lv_at hl 2 rfl) ?_
        obtain ⟨r5, er5, h⟩ := g_cl_some h
        refine b_callV hx hb hml hown hT hK hA hw mk_X11_248 (c_X11_isOriginal l D g a o pasts length printed told state r1.1 r1.2.1 boxes frees bestFree bestTurned bestFirst bestSecond v spare past kept isKept text paper r1.2.2.1 r1.2.2.2.1 r1.2.2.2.2.1 r1.2.2.2.2.2.1 r1.2.2.2.2.2.2.1 r1.2.2.2.2.2.2.2 boxX boxY boxW boxH freeAtX freeAtY freeW freeH begins ends tried aside x3 r5 er5) [0] [] rfl (by decide) 0 0 rfl rfl rfl rfl hl.1 [.int x2] rfl (Nat.le_of_ble_eq_true rfl) ⟨Nat.le_of_ble_eq_true rfl, Nat.le_of_ble_eq_true rfl⟩ ⟨Nat.zero_le _, Nat.zero_le _⟩ dX11_unplaced_21 (wb' := [k_Model g a o pasts length printed told state r1.1 r1.2.1 boxes frees bestFree bestTurned bestFirst bestSecond v spare past kept isKept text paper r1.2.2.1 r1.2.2.2.1 r1.2.2.2.2.1 r1.2.2.2.2.2.1 r1.2.2.2.2.2.2.1 r1.2.2.2.2.2.2.2 boxX boxY boxW boxH freeAtX freeAtY freeW freeH begins ends tried aside]) rfl b_e0 1 rfl (by decide) (st2 := [.int r5, .int x2]) rfl (fun H locs hw => ?_)
        obtain ⟨j45_6, ej45_6, h⟩ := g_jn_nm h
        have hj45_6 : ∀ (x6 : Int32) (H : Heap) (locs : List Loc) (ls : Array Slot), b_Wd D A s.heap H locs [k_Model g a o pasts length printed told state r1.1 r1.2.1 boxes frees bestFree bestTurned bestFirst bestSecond v spare past kept isKept text paper r1.2.2.1 r1.2.2.2.1 r1.2.2.2.2.1 r1.2.2.2.2.2.1 r1.2.2.2.2.2.2.1 r1.2.2.2.2.2.2.2 boxX boxY boxW boxH freeAtX freeAtY freeW freeH begins ends tried aside] → lv_has ls 3 [(0, .ref (a o)), (2, .int x3)] → j45_6 x6 = some u → W p l e (g_rm 5 125) s m args below meth c H locs 0 0 Q (F0 m 45 ls [.int x6, .int x2]) := by
          intro x6 H locs ls hw hl h
          subst ej45_6
          dsimp only at h
          refine lv_iadd hx hb dX11_unplaced_45 ?_
          obtain ⟨x8, ex8, h⟩ := g_bd_nm h
          refine g_topi ex8 ?_
          refine lv_istore_n (lv' := [(1, .int x8), (0, .ref (a o)), (2, .int x3)]) hx hb dX11_unplaced_46 rfl hl (by decide) rfl (fun ls hl => ?_)
          obtain ⟨x9, ex9, h⟩ := g_bd_nm h
          refine lv_iinc (v := x9) (lv' := [(2, .int x9), (1, .int x8), (0, .ref (a o))]) hx hb dX11_unplaced_47 hl (k := 2) rfl (by rw [ex9]; rfl) (by decide) rfl (fun ls hl => ?_)
          refine lv_goto (tgt := 8) hx hb dX11_unplaced_50 (by decide) ?_
          exact ih8 x8 x9 _ _ _ hw (lv_sub hl [2, 1, 0] rfl) h
        obtain ⟨j44_9, ej44_9, h⟩ := g_jn_nm h
        have hj44_9 : ∀ (H : Heap) (locs : List Loc) (ls : Array Slot), b_Wd D A s.heap H locs [k_Model g a o pasts length printed told state r1.1 r1.2.1 boxes frees bestFree bestTurned bestFirst bestSecond v spare past kept isKept text paper r1.2.2.1 r1.2.2.2.1 r1.2.2.2.2.1 r1.2.2.2.2.2.1 r1.2.2.2.2.2.2.1 r1.2.2.2.2.2.2.2 boxX boxY boxW boxH freeAtX freeAtY freeW freeH begins ends tried aside] → lv_has ls 3 [(0, .ref (a o)), (2, .int x3)] → j44_9 = some u → W p l e (g_rm 5 125) s m args below meth c H locs 0 0 Q (F0 m 44 ls [.int x2]) := by
          intro  H locs ls hw hl h
          subst ej44_9
          refine lv_iconst (v := 0) hx hb dX11_unplaced_44 (by decide) ?_
          exact hj45_6 (0 : Int32) _ _ _ hw (lv_sub hl [0, 1] rfl) h
        refine lv_if_eq (tgt := 44) hx hb dX11_unplaced_24 (by decide) (fun hc24 => ?_) (fun hc24 => ?_)
        · rw [if_pos hc24] at h
          exact hj44_9  _ _ _ hw (lv_sub hl [0, 2] rfl) h
        · rw [if_neg hc24] at h
          refine lv_aload_n hx hb dX11_unplaced_27 rfl (lv_at hl 0 rfl) ?_
          refine b_get hx hb hT hK hown fl_X11_7 hw 0 0 rfl rfl (v := .ref (a (o+1))) rfl dX11_unplaced_28 ?_
          refine lv_iload_n hx hb dX11_unplaced_31 rfl (lv_at hl 2 rfl) ?_
          refine lv_iconst (v := 3) hx hb dX11_unplaced_32 (by decide) ?_
          refine b_callS hx hb hml hown hT hK hA hw mk_X11_94 (c_X11_at l D g x3 (3 : Int32)) [] [0] rfl (by decide) rfl hl.1 [.ref (a (o+1)), .int x2] rfl (Nat.le_of_ble_eq_true rfl) ⟨Nat.le_of_ble_eq_true rfl, Nat.le_of_ble_eq_true rfl⟩ ⟨Nat.zero_le _, Nat.zero_le _⟩ dX11_unplaced_33 (wb' := [k_Model g a o pasts length printed told state r1.1 r1.2.1 boxes frees bestFree bestTurned bestFirst bestSecond v spare past kept isKept text paper r1.2.2.1 r1.2.2.2.1 r1.2.2.2.2.1 r1.2.2.2.2.2.1 r1.2.2.2.2.2.2.1 r1.2.2.2.2.2.2.2 boxX boxY boxW boxH freeAtX freeAtY freeW freeH begins ends tried aside]) rfl (b_e1 rfl b_e0) 1 rfl (by decide) (st2 := [.int (f_X11_at x3 (3 : Int32)), .ref (a (o+1)), .int x2]) rfl (fun H locs hw => ?_)
          obtain ⟨x11, ex11, hix11, h⟩ := g_rd_some h
          refine b_iald hx hb hK hw 0 1 rfl (f := v) rfl hix11 ex11 dX11_unplaced_36 ?_
          refine lv_if_ge (tgt := 44) hx hb dX11_unplaced_37 (by decide) (fun hc37 => ?_) (fun hc37 => ?_)
          · rw [if_pos hc37] at h
            exact hj44_9  _ _ _ hw (lv_sub hl [0, 2] rfl) h
          · rw [if_neg hc37] at h
            refine lv_iconst (v := 1) hx hb dX11_unplaced_40 (by decide) ?_
            refine lv_goto (tgt := 45) hx hb dX11_unplaced_41 (by decide) ?_
            exact hj45_6 (1 : Int32) _ _ _ hw (lv_sub hl [0, 2] rfl) h
  exact hL8 g_fuel (0 : Int32) (0 : Int32) _ _ _ hw (lv_sub hl [2, 1, 0] rfl) h
set_option maxRecDepth 100000 in
set_option maxHeartbeats 4000000 in
theorem c_X11_pageBound (l : Launch) (D : va_G) (g : Nat → ClassId) (a : Nat → Nat) (o : Nat) (pasts : Int32) (length : Int32) (printed : Int32) (told : Int32) (state : Int64) (backX : Int32) (backY : Int32) (boxes : Int32) (frees : Int32) (bestFree : Int32) (bestTurned : Int32) (bestFirst : Int32) (bestSecond : Int32) (v : (Nat → Int32)) (spare : (Nat → Int32)) (past : (Nat → Int32)) (kept : (Nat → Int32)) (isKept : (Nat → Int32)) (text : (Nat → Int32)) (paper : (Nat → Int32)) (left : (Nat → Int32)) (top : (Nat → Int32)) (wide : (Nat → Int32)) (high : (Nat → Int32)) (original : (Nat → Int32)) (turn : (Nat → Int32)) (boxX : (Nat → Int32)) (boxY : (Nat → Int32)) (boxW : (Nat → Int32)) (boxH : (Nat → Int32)) (freeAtX : (Nat → Int32)) (freeAtY : (Nat → Int32)) (freeW : (Nat → Int32)) (freeH : (Nat → Int32)) (begins : (Nat → Int32)) (ends : (Nat → Int32)) (tried : (Nat → Int32)) (aside : (Nat → Int32)) (u : Int32 × Int32 × Int32 × (Nat → Int32) × (Nat → Int32) × (Nat → Int32) × (Nat → Int32) × (Nat → Int32) × (Nat → Int32)) (h : f_X11_pageBound backX backY v left top wide high original turn = some u) : b_Ct l yX11_pageBound cX11_pageBound 3 (some .int) 5 125 D g [.ref (a o)] [k_Model g a o pasts length printed told state backX backY boxes frees bestFree bestTurned bestFirst bestSecond v spare past kept isKept text paper left top wide high original turn boxX boxY boxW boxH freeAtX freeAtY freeW freeH begins ends tried aside] [k_Model g a o pasts length printed told state u.2.1 u.2.2.1 boxes frees bestFree bestTurned bestFirst bestSecond v spare past kept isKept text paper u.2.2.2.1 u.2.2.2.2.1 u.2.2.2.2.2.1 u.2.2.2.2.2.2.1 u.2.2.2.2.2.2.2.1 u.2.2.2.2.2.2.2.2 boxX boxY boxW boxH freeAtX freeAtY freeW freeH begins ends tried aside] (some (.int u.1)) := by
  refine b_start RX11 (by decide) rfl (Nat.le_of_ble_eq_true rfl) rfl ?_
  intro p e s m args below meth c A ls Q hQ hx hb hr hlk hml hown hT hK hA hw hl
  have hl : lv_has ls 3 [(0, .ref (a o))] := hl
  unfold f_X11_pageBound at h
  refine lv_aload_n hx hb dX11_pageBound_0 rfl (lv_at hl 0 rfl) ?_
  obtain ⟨r1, er1, h⟩ := g_cl_some h
  refine b_callV hx hb hml hown hT hK hA hw mk_X11_176 (c_X11_knows l D g a o pasts length printed told state backX backY boxes frees bestFree bestTurned bestFirst bestSecond v spare past kept isKept text paper left top wide high original turn boxX boxY boxW boxH freeAtX freeAtY freeW freeH begins ends tried aside r1 er1) [0] [] rfl (by decide) 0 0 rfl rfl rfl rfl hl.1 [] rfl (Nat.le_of_ble_eq_true rfl) ⟨Nat.le_of_ble_eq_true rfl, Nat.le_of_ble_eq_true rfl⟩ ⟨Nat.zero_le _, Nat.zero_le _⟩ dX11_pageBound_1 (wb' := [k_Model g a o pasts length printed told state r1.1 r1.2.1 boxes frees bestFree bestTurned bestFirst bestSecond v spare past kept isKept text paper r1.2.2.1 r1.2.2.2.1 r1.2.2.2.2.1 r1.2.2.2.2.2.1 r1.2.2.2.2.2.2.1 r1.2.2.2.2.2.2.2 boxX boxY boxW boxH freeAtX freeAtY freeW freeH begins ends tried aside]) rfl b_e0 1 rfl (by decide) (st2 := []) rfl (fun H locs hw => ?_)
  refine lv_iconst (v := 0) hx hb dX11_pageBound_4 (by decide) ?_
  refine lv_istore_n (lv' := [(1, .int (0 : Int32)), (0, .ref (a o))]) hx hb dX11_pageBound_5 rfl hl (by decide) rfl (fun ls hl => ?_)
  refine lv_iconst (v := 0) hx hb dX11_pageBound_6 (by decide) ?_
  refine lv_istore_n (lv' := [(2, .int (0 : Int32)), (1, .int (0 : Int32)), (0, .ref (a o))]) hx hb dX11_pageBound_7 rfl hl (by decide) rfl (fun ls hl => ?_)
  obtain ⟨k52_2, ek52_2, h⟩ := g_jn_nm h
  have hk52_2 : ∀ (x2 : Int32) (H : Heap) (locs : List Loc) (ls : Array Slot), b_Wd D A s.heap H locs [k_Model g a o pasts length printed told state r1.1 r1.2.1 boxes frees bestFree bestTurned bestFirst bestSecond v spare past kept isKept text paper r1.2.2.1 r1.2.2.2.1 r1.2.2.2.2.1 r1.2.2.2.2.2.1 r1.2.2.2.2.2.2.1 r1.2.2.2.2.2.2.2 boxX boxY boxW boxH freeAtX freeAtY freeW freeH begins ends tried aside] → lv_has ls 3 [(0, .ref (a o)), (1, .int x2)] → k52_2 x2 = some u → W p l e (g_rm 5 125) s m args below meth c H locs 0 0 Q (F0 m 52 ls []) := by
    intro x2 H locs ls hw hl h
    subst ek52_2
    dsimp only at h
    refine lv_iload_n hx hb dX11_pageBound_52 rfl (lv_at hl 1 rfl) ?_
    refine lv_if_ne (tgt := 58) hx hb dX11_pageBound_53 (by decide) (fun hc53 => ?_) (fun hc53 => ?_)
    · rw [if_neg hc53] at h
      refine lv_aload_n hx hb dX11_pageBound_58 rfl (lv_at hl 0 rfl) ?_
      obtain ⟨r4, er4, h⟩ := g_cl_some h
      refine b_callV hx hb hml hown hT hK hA hw mk_X11_197 (c_X11_fieldWidth l D g a o pasts length printed told state r1.1 r1.2.1 boxes frees bestFree bestTurned bestFirst bestSecond v spare past kept isKept text paper r1.2.2.1 r1.2.2.2.1 r1.2.2.2.2.1 r1.2.2.2.2.2.1 r1.2.2.2.2.2.2.1 r1.2.2.2.2.2.2.2 boxX boxY boxW boxH freeAtX freeAtY freeW freeH begins ends tried aside r4 er4) [0] [] rfl (by decide) 0 0 rfl rfl rfl rfl hl.1 [] rfl (Nat.le_of_ble_eq_true rfl) ⟨Nat.le_of_ble_eq_true rfl, Nat.le_of_ble_eq_true rfl⟩ ⟨Nat.zero_le _, Nat.zero_le _⟩ dX11_pageBound_59 (wb' := [k_Model g a o pasts length printed told state r1.1 r1.2.1 boxes frees bestFree bestTurned bestFirst bestSecond v spare past kept isKept text paper r1.2.2.1 r1.2.2.2.1 r1.2.2.2.2.1 r1.2.2.2.2.2.1 r1.2.2.2.2.2.2.1 r1.2.2.2.2.2.2.2 boxX boxY boxW boxH freeAtX freeAtY freeW freeH begins ends tried aside]) rfl b_e0 1 rfl (by decide) (st2 := [.int r4]) rfl (fun H locs hw => ?_)
      refine lv_if_le (tgt := 72) hx hb dX11_pageBound_62 (by decide) (fun hc62 => ?_) (fun hc62 => ?_)
      · rw [if_pos hc62] at h
        refine lv_bipush (v := -4) hx hb dX11_pageBound_72 (by decide) ?_
        obtain rfl := Option.some.inj h
        exact b_iret hQ hx hb hr hlk hw rfl dX11_pageBound_74
      · rw [if_neg hc62] at h
        refine lv_aload_n hx hb dX11_pageBound_65 rfl (lv_at hl 0 rfl) ?_
        obtain ⟨r5, er5, h⟩ := g_cl_some h
        refine b_callV hx hb hml hown hT hK hA hw mk_X11_210 (c_X11_fieldHeight l D g a o pasts length printed told state r1.1 r1.2.1 boxes frees bestFree bestTurned bestFirst bestSecond v spare past kept isKept text paper r1.2.2.1 r1.2.2.2.1 r1.2.2.2.2.1 r1.2.2.2.2.2.1 r1.2.2.2.2.2.2.1 r1.2.2.2.2.2.2.2 boxX boxY boxW boxH freeAtX freeAtY freeW freeH begins ends tried aside r5 er5) [0] [] rfl (by decide) 0 0 rfl rfl rfl rfl hl.1 [] rfl (Nat.le_of_ble_eq_true rfl) ⟨Nat.le_of_ble_eq_true rfl, Nat.le_of_ble_eq_true rfl⟩ ⟨Nat.zero_le _, Nat.zero_le _⟩ dX11_pageBound_66 (wb' := [k_Model g a o pasts length printed told state r1.1 r1.2.1 boxes frees bestFree bestTurned bestFirst bestSecond v spare past kept isKept text paper r1.2.2.1 r1.2.2.2.1 r1.2.2.2.2.1 r1.2.2.2.2.2.1 r1.2.2.2.2.2.2.1 r1.2.2.2.2.2.2.2 boxX boxY boxW boxH freeAtX freeAtY freeW freeH begins ends tried aside]) rfl b_e0 1 rfl (by decide) (st2 := [.int r5]) rfl (fun H locs hw => ?_)
        refine lv_if_gt (tgt := 75) hx hb dX11_pageBound_69 (by decide) (fun hc69 => ?_) (fun hc69 => ?_)
        · rw [if_pos hc69] at h
          refine lv_aload_n hx hb dX11_pageBound_75 rfl (lv_at hl 0 rfl) ?_
          obtain ⟨r6, er6, h⟩ := g_cl_some h
          refine b_callV hx hb hml hown hT hK hA hw mk_X11_197 (c_X11_fieldWidth l D g a o pasts length printed told state r1.1 r1.2.1 boxes frees bestFree bestTurned bestFirst bestSecond v spare past kept isKept text paper r1.2.2.1 r1.2.2.2.1 r1.2.2.2.2.1 r1.2.2.2.2.2.1 r1.2.2.2.2.2.2.1 r1.2.2.2.2.2.2.2 boxX boxY boxW boxH freeAtX freeAtY freeW freeH begins ends tried aside r6 er6) [0] [] rfl (by decide) 0 0 rfl rfl rfl rfl hl.1 [] rfl (Nat.le_of_ble_eq_true rfl) ⟨Nat.le_of_ble_eq_true rfl, Nat.le_of_ble_eq_true rfl⟩ ⟨Nat.zero_le _, Nat.zero_le _⟩ dX11_pageBound_76 (wb' := [k_Model g a o pasts length printed told state r1.1 r1.2.1 boxes frees bestFree bestTurned bestFirst bestSecond v spare past kept isKept text paper r1.2.2.1 r1.2.2.2.1 r1.2.2.2.2.1 r1.2.2.2.2.2.1 r1.2.2.2.2.2.2.1 r1.2.2.2.2.2.2.2 boxX boxY boxW boxH freeAtX freeAtY freeW freeH begins ends tried aside]) rfl b_e0 1 rfl (by decide) (st2 := [.int r6]) rfl (fun H locs hw => ?_)
          refine lv_aload_n hx hb dX11_pageBound_79 rfl (lv_at hl 0 rfl) ?_
          obtain ⟨r7, er7, h⟩ := g_cl_some h
          refine b_callV hx hb hml hown hT hK hA hw mk_X11_210 (c_X11_fieldHeight l D g a o pasts length printed told state r1.1 r1.2.1 boxes frees bestFree bestTurned bestFirst bestSecond v spare past kept isKept text paper r1.2.2.1 r1.2.2.2.1 r1.2.2.2.2.1 r1.2.2.2.2.2.1 r1.2.2.2.2.2.2.1 r1.2.2.2.2.2.2.2 boxX boxY boxW boxH freeAtX freeAtY freeW freeH begins ends tried aside r7 er7) [0] [] rfl (by decide) 0 0 rfl rfl rfl rfl hl.1 [.int r6] rfl (Nat.le_of_ble_eq_true rfl) ⟨Nat.le_of_ble_eq_true rfl, Nat.le_of_ble_eq_true rfl⟩ ⟨Nat.zero_le _, Nat.zero_le _⟩ dX11_pageBound_80 (wb' := [k_Model g a o pasts length printed told state r1.1 r1.2.1 boxes frees bestFree bestTurned bestFirst bestSecond v spare past kept isKept text paper r1.2.2.1 r1.2.2.2.1 r1.2.2.2.2.1 r1.2.2.2.2.2.1 r1.2.2.2.2.2.2.1 r1.2.2.2.2.2.2.2 boxX boxY boxW boxH freeAtX freeAtY freeW freeH begins ends tried aside]) rfl b_e0 1 rfl (by decide) (st2 := [.int r7, .int r6]) rfl (fun H locs hw => ?_)
          refine lv_imul hx hb dX11_pageBound_83 ?_
          obtain ⟨x8, ex8, h⟩ := g_bd_nm h
          refine g_topi ex8 ?_
          refine lv_istore_n (lv' := [(2, .int x8), (0, .ref (a o)), (1, .int x2)]) hx hb dX11_pageBound_84 rfl hl (by decide) rfl (fun ls hl => ?_)
          refine lv_iload_n hx hb dX11_pageBound_85 rfl (lv_at hl 2 rfl) ?_
          refine lv_iload_n hx hb dX11_pageBound_86 rfl (lv_at hl 0 rfl) ?_
          refine lv_iadd hx hb dX11_pageBound_87 ?_
          refine lv_iconst (v := 1) hx hb dX11_pageBound_88 (by decide) ?_
          refine lv_isub hx hb dX11_pageBound_89 ?_
          refine lv_iload_n hx hb dX11_pageBound_90 rfl (lv_at hl 0 rfl) ?_
          obtain ⟨z9, h⟩ := g_nz_some h
          refine lv_idiv hx hb dX11_pageBound_91 z9 ?_
          obtain rfl := Option.some.inj h
          exact b_iret hQ hx hb hr hlk hw rfl dX11_pageBound_92
        · rw [if_neg hc69] at h
          refine lv_bipush (v := -4) hx hb dX11_pageBound_72 (by decide) ?_
          obtain rfl := Option.some.inj h
          exact b_iret hQ hx hb hr hlk hw rfl dX11_pageBound_74
    · rw [if_pos hc53] at h
      refine lv_iconst (v := 0) hx hb dX11_pageBound_56 (by decide) ?_
      obtain rfl := Option.some.inj h
      exact b_iret hQ hx hb hr hlk hw rfl dX11_pageBound_57
  have hL8 : ∀ (n : Nat) (x10 : Int32) (x11 : Int32) (H : Heap) (locs : List Loc) (ls : Array Slot), b_Wd D A s.heap H locs [k_Model g a o pasts length printed told state r1.1 r1.2.1 boxes frees bestFree bestTurned bestFirst bestSecond v spare past kept isKept text paper r1.2.2.1 r1.2.2.2.1 r1.2.2.2.2.1 r1.2.2.2.2.2.1 r1.2.2.2.2.2.2.1 r1.2.2.2.2.2.2.2 boxX boxY boxW boxH freeAtX freeAtY freeW freeH begins ends tried aside] → lv_has ls 3 [(0, .ref (a o)), (1, .int x10), (2, .int x11)] → f_X11_pageBound_L8 v r1 k52_2 n x10 x11 = some u → W p l e (g_rm 5 125) s m args below meth c H locs 0 0 Q (F0 m 8 ls []) := by
    intro n
    induction n with
    | zero =>
      intro x10 x11 H locs ls hw hl h
      cases (show none = some u from h)
    | succ n ih8 =>
      intro x10 x11 H locs ls hw hl h
      rw [f_X11_pageBound_L8] at h
      refine lv_iload_n hx hb dX11_pageBound_8 rfl (lv_at hl 2 rfl) ?_
      refine lv_aload_n hx hb dX11_pageBound_9 rfl (lv_at hl 0 rfl) ?_
      refine b_get hx hb hT hK hown fl_X11_7 hw 0 0 rfl rfl (v := .ref (a (o+1))) rfl dX11_pageBound_10 ?_
      refine lv_iconst (v := 0) hx hb dX11_pageBound_13 (by decide) ?_
      obtain ⟨x12, ex12, hix12, h⟩ := g_rd_some h
      refine b_iald hx hb hK hw 0 1 rfl (f := v) rfl hix12 ex12 dX11_pageBound_14 ?_
      refine lv_icmp_ge (tgt := 52) hx hb dX11_pageBound_15 (by decide) (fun hc15 => ?_) (fun hc15 => ?_)
      · rw [if_pos hc15] at h
        exact hk52_2 x10 _ _ _ hw (lv_sub hl [0, 1] rfl) h
      · rw [if_neg hc15] at h
        refine lv_iload_n hx hb dX11_pageBound_18 rfl (lv_at hl 1 rfl) ?_
        refine lv_aload_n hx hb dX11_pageBound_19 rfl (lv_at hl 0 rfl) ?_
        refine lv_iload_n hx hb dX11_pageBound_20 rfl (lv_at hl 2 rfl) ?_
        obtain ⟨r13, er13, h⟩ := g_cl_some h
        refine b_callV hx hb hml hown hT hK hA hw mk_X11_248 (c_X11_isOriginal l D g a o pasts length printed told state r1.1 r1.2.1 boxes frees bestFree bestTurned bestFirst bestSecond v spare past kept isKept text paper r1.2.2.1 r1.2.2.2.1 r1.2.2.2.2.1 r1.2.2.2.2.2.1 r1.2.2.2.2.2.2.1 r1.2.2.2.2.2.2.2 boxX boxY boxW boxH freeAtX freeAtY freeW freeH begins ends tried aside x11 r13 er13) [0] [] rfl (by decide) 0 0 rfl rfl rfl rfl hl.1 [.int x10] rfl (Nat.le_of_ble_eq_true rfl) ⟨Nat.le_of_ble_eq_true rfl, Nat.le_of_ble_eq_true rfl⟩ ⟨Nat.zero_le _, Nat.zero_le _⟩ dX11_pageBound_21 (wb' := [k_Model g a o pasts length printed told state r1.1 r1.2.1 boxes frees bestFree bestTurned bestFirst bestSecond v spare past kept isKept text paper r1.2.2.1 r1.2.2.2.1 r1.2.2.2.2.1 r1.2.2.2.2.2.1 r1.2.2.2.2.2.2.1 r1.2.2.2.2.2.2.2 boxX boxY boxW boxH freeAtX freeAtY freeW freeH begins ends tried aside]) rfl b_e0 1 rfl (by decide) (st2 := [.int r13, .int x10]) rfl (fun H locs hw => ?_)
        obtain ⟨j44_14, ej44_14, h⟩ := g_jn_nm h
        have hj44_14 : ∀ (x14 : Int32) (H : Heap) (locs : List Loc) (ls : Array Slot), b_Wd D A s.heap H locs [k_Model g a o pasts length printed told state r1.1 r1.2.1 boxes frees bestFree bestTurned bestFirst bestSecond v spare past kept isKept text paper r1.2.2.1 r1.2.2.2.1 r1.2.2.2.2.1 r1.2.2.2.2.2.1 r1.2.2.2.2.2.2.1 r1.2.2.2.2.2.2.2 boxX boxY boxW boxH freeAtX freeAtY freeW freeH begins ends tried aside] → lv_has ls 3 [(0, .ref (a o)), (2, .int x11)] → j44_14 x14 = some u → W p l e (g_rm 5 125) s m args below meth c H locs 0 0 Q (F0 m 44 ls [.int x14, .int x10]) := by
          intro x14 H locs ls hw hl h
          subst ej44_14
          dsimp only at h
          refine lv_iadd hx hb dX11_pageBound_44 ?_
          obtain ⟨x16, ex16, h⟩ := g_bd_nm h
          refine g_topi ex16 ?_
          refine lv_istore_n (lv' := [(1, .int x16), (0, .ref (a o)), (2, .int x11)]) hx hb dX11_pageBound_45 rfl hl (by decide) rfl (fun ls hl => ?_)
          obtain ⟨x17, ex17, h⟩ := g_bd_nm h
          refine lv_iinc (v := x17) (lv' := [(2, .int x17), (1, .int x16), (0, .ref (a o))]) hx hb dX11_pageBound_46 hl (k := 2) rfl (by rw [ex17]; rfl) (by decide) rfl (fun ls hl => ?_)
          refine lv_goto (tgt := 8) hx hb dX11_pageBound_49 (by decide) ?_
          exact ih8 x16 x17 _ _ _ hw (lv_sub hl [2, 1, 0] rfl) h
        refine lv_if_eq (tgt := 43) hx hb dX11_pageBound_24 (by decide) (fun hc24 => ?_) (fun hc24 => ?_)
        · rw [if_pos hc24] at h
          refine lv_iconst (v := 0) hx hb dX11_pageBound_43 (by decide) ?_
          exact hj44_14 (0 : Int32) _ _ _ hw (lv_sub hl [0, 2] rfl) h
        · rw [if_neg hc24] at h
          refine lv_aload_n hx hb dX11_pageBound_27 rfl (lv_at hl 0 rfl) ?_
          refine lv_iload_n hx hb dX11_pageBound_28 rfl (lv_at hl 2 rfl) ?_
          refine lv_iconst (v := 0) hx hb dX11_pageBound_29 (by decide) ?_
          obtain ⟨r18, er18, h⟩ := g_cl_some h
          refine b_callV hx hb hml hown hT hK hA hw mk_X11_188 (c_X11_boxWidth l D g a o pasts length printed told state r1.1 r1.2.1 boxes frees bestFree bestTurned bestFirst bestSecond v spare past kept isKept text paper r1.2.2.1 r1.2.2.2.1 r1.2.2.2.2.1 r1.2.2.2.2.2.1 r1.2.2.2.2.2.2.1 r1.2.2.2.2.2.2.2 boxX boxY boxW boxH freeAtX freeAtY freeW freeH begins ends tried aside x11 (0 : Int32) r18 er18) [0] [] rfl (by decide) 0 0 rfl rfl rfl rfl hl.1 [.int x10] rfl (Nat.le_of_ble_eq_true rfl) ⟨Nat.le_of_ble_eq_true rfl, Nat.le_of_ble_eq_true rfl⟩ ⟨Nat.zero_le _, Nat.zero_le _⟩ dX11_pageBound_30 (wb' := [k_Model g a o pasts length printed told state r1.1 r1.2.1 boxes frees bestFree bestTurned bestFirst bestSecond v spare past kept isKept text paper r1.2.2.1 r1.2.2.2.1 r1.2.2.2.2.1 r1.2.2.2.2.2.1 r1.2.2.2.2.2.2.1 r1.2.2.2.2.2.2.2 boxX boxY boxW boxH freeAtX freeAtY freeW freeH begins ends tried aside]) rfl b_e0 1 rfl (by decide) (st2 := [.int r18, .int x10]) rfl (fun H locs hw => ?_)
          refine lv_aload_n hx hb dX11_pageBound_33 rfl (lv_at hl 0 rfl) ?_
          refine lv_iload_n hx hb dX11_pageBound_34 rfl (lv_at hl 2 rfl) ?_
          refine lv_iconst (v := 0) hx hb dX11_pageBound_35 (by decide) ?_
          obtain ⟨r19, er19, h⟩ := g_cl_some h
          refine b_callV hx hb hml hown hT hK hA hw mk_X11_191 (c_X11_boxHeight l D g a o pasts length printed told state r1.1 r1.2.1 boxes frees bestFree bestTurned bestFirst bestSecond v spare past kept isKept text paper r1.2.2.1 r1.2.2.2.1 r1.2.2.2.2.1 r1.2.2.2.2.2.1 r1.2.2.2.2.2.2.1 r1.2.2.2.2.2.2.2 boxX boxY boxW boxH freeAtX freeAtY freeW freeH begins ends tried aside x11 (0 : Int32) r19 er19) [0] [] rfl (by decide) 0 0 rfl rfl rfl rfl hl.1 [.int r18, .int x10] rfl (Nat.le_of_ble_eq_true rfl) ⟨Nat.le_of_ble_eq_true rfl, Nat.le_of_ble_eq_true rfl⟩ ⟨Nat.zero_le _, Nat.zero_le _⟩ dX11_pageBound_36 (wb' := [k_Model g a o pasts length printed told state r1.1 r1.2.1 boxes frees bestFree bestTurned bestFirst bestSecond v spare past kept isKept text paper r1.2.2.1 r1.2.2.2.1 r1.2.2.2.2.1 r1.2.2.2.2.2.1 r1.2.2.2.2.2.2.1 r1.2.2.2.2.2.2.2 boxX boxY boxW boxH freeAtX freeAtY freeW freeH begins ends tried aside]) rfl b_e0 1 rfl (by decide) (st2 := [.int r19, .int r18, .int x10]) rfl (fun H locs hw => ?_)
          refine lv_imul hx hb dX11_pageBound_39 ?_
          refine lv_goto (tgt := 44) hx hb dX11_pageBound_40 (by decide) ?_
          exact hj44_14 (r18 * r19) _ _ _ hw (lv_sub hl [0, 2] rfl) h
  exact hL8 g_fuel (0 : Int32) (0 : Int32) _ _ _ hw (lv_sub hl [2, 1, 0] rfl) h
set_option maxRecDepth 100000 in
set_option maxHeartbeats 4000000 in
theorem c_X11_usedByAll (l : Launch) (D : va_G) (g : Nat → ClassId) (a : Nat → Nat) (o : Nat) (pasts : Int32) (length : Int32) (printed : Int32) (told : Int32) (state : Int64) (backX : Int32) (backY : Int32) (boxes : Int32) (frees : Int32) (bestFree : Int32) (bestTurned : Int32) (bestFirst : Int32) (bestSecond : Int32) (v : (Nat → Int32)) (spare : (Nat → Int32)) (past : (Nat → Int32)) (kept : (Nat → Int32)) (isKept : (Nat → Int32)) (text : (Nat → Int32)) (paper : (Nat → Int32)) (left : (Nat → Int32)) (top : (Nat → Int32)) (wide : (Nat → Int32)) (high : (Nat → Int32)) (original : (Nat → Int32)) (turn : (Nat → Int32)) (boxX : (Nat → Int32)) (boxY : (Nat → Int32)) (boxW : (Nat → Int32)) (boxH : (Nat → Int32)) (freeAtX : (Nat → Int32)) (freeAtY : (Nat → Int32)) (freeW : (Nat → Int32)) (freeH : (Nat → Int32)) (begins : (Nat → Int32)) (ends : (Nat → Int32)) (tried : (Nat → Int32)) (aside : (Nat → Int32)) (u : Int32) (h : f_X11_usedByAll v wide high = some u) : b_Ct l yX11_usedByAll cX11_usedByAll 3 (some .int) 3 68 D g [.ref (a o)] [k_Model g a o pasts length printed told state backX backY boxes frees bestFree bestTurned bestFirst bestSecond v spare past kept isKept text paper left top wide high original turn boxX boxY boxW boxH freeAtX freeAtY freeW freeH begins ends tried aside] [k_Model g a o pasts length printed told state backX backY boxes frees bestFree bestTurned bestFirst bestSecond v spare past kept isKept text paper left top wide high original turn boxX boxY boxW boxH freeAtX freeAtY freeW freeH begins ends tried aside] (some (.int u)) := by
  refine b_start RX11 (by decide) rfl (Nat.le_of_ble_eq_true rfl) rfl ?_
  intro p e s m args below meth c A ls Q hQ hx hb hr hlk hml hown hT hK hA hw hl
  have hl : lv_has ls 3 [(0, .ref (a o))] := hl
  unfold f_X11_usedByAll at h
  refine lv_iconst (v := 0) hx hb dX11_usedByAll_0 (by decide) ?_
  refine lv_istore_n (lv' := [(1, .int (0 : Int32)), (0, .ref (a o))]) hx hb dX11_usedByAll_1 rfl hl (by decide) rfl (fun ls hl => ?_)
  refine lv_iconst (v := 0) hx hb dX11_usedByAll_2 (by decide) ?_
  refine lv_istore_n (lv' := [(2, .int (0 : Int32)), (1, .int (0 : Int32)), (0, .ref (a o))]) hx hb dX11_usedByAll_3 rfl hl (by decide) rfl (fun ls hl => ?_)
  have hL4 : ∀ (n : Nat) (x1 : Int32) (x2 : Int32) (H : Heap) (locs : List Loc) (ls : Array Slot), b_Wd D A s.heap H locs [k_Model g a o pasts length printed told state backX backY boxes frees bestFree bestTurned bestFirst bestSecond v spare past kept isKept text paper left top wide high original turn boxX boxY boxW boxH freeAtX freeAtY freeW freeH begins ends tried aside] → lv_has ls 3 [(0, .ref (a o)), (1, .int x1), (2, .int x2)] → f_X11_usedByAll_L4 v wide high n x1 x2 = some u → W p l e (g_rm 3 68) s m args below meth c H locs 0 0 Q (F0 m 4 ls []) := by
    intro n
    induction n with
    | zero =>
      intro x1 x2 H locs ls hw hl h
      cases (show none = some u from h)
    | succ n ih4 =>
      intro x1 x2 H locs ls hw hl h
      rw [f_X11_usedByAll_L4] at h
      refine lv_iload_n hx hb dX11_usedByAll_4 rfl (lv_at hl 2 rfl) ?_
      refine lv_aload_n hx hb dX11_usedByAll_5 rfl (lv_at hl 0 rfl) ?_
      refine b_get hx hb hT hK hown fl_X11_7 hw 0 0 rfl rfl (v := .ref (a (o+1))) rfl dX11_usedByAll_6 ?_
      refine lv_bipush (v := 13) hx hb dX11_usedByAll_9 (by decide) ?_
      obtain ⟨x3, ex3, hix3, h⟩ := g_rd_some h
      refine b_iald hx hb hK hw 0 1 rfl (f := v) rfl hix3 ex3 dX11_usedByAll_11 ?_
      refine lv_icmp_ge (tgt := 37) hx hb dX11_usedByAll_12 (by decide) (fun hc12 => ?_) (fun hc12 => ?_)
      · rw [if_pos hc12] at h
        refine lv_iload_n hx hb dX11_usedByAll_37 rfl (lv_at hl 1 rfl) ?_
        obtain rfl := Option.some.inj h
        exact b_iret hQ hx hb hr hlk hw rfl dX11_usedByAll_38
      · rw [if_neg hc12] at h
        refine lv_iload_n hx hb dX11_usedByAll_15 rfl (lv_at hl 1 rfl) ?_
        refine lv_aload_n hx hb dX11_usedByAll_16 rfl (lv_at hl 0 rfl) ?_
        refine lv_iload_n hx hb dX11_usedByAll_17 rfl (lv_at hl 2 rfl) ?_
        refine lv_iconst (v := 1) hx hb dX11_usedByAll_18 (by decide) ?_
        obtain ⟨r4, er4, h⟩ := g_cl_some h
        refine b_callV hx hb hml hown hT hK hA hw mk_X11_297 (c_X11_used l D g a o pasts length printed told state backX backY boxes frees bestFree bestTurned bestFirst bestSecond v spare past kept isKept text paper left top wide high original turn boxX boxY boxW boxH freeAtX freeAtY freeW freeH begins ends tried aside x2 (1 : Int32) r4 er4) [0] [] rfl (by decide) 0 0 rfl rfl rfl rfl hl.1 [.int x1] rfl (Nat.le_of_ble_eq_true rfl) ⟨Nat.le_of_ble_eq_true rfl, Nat.le_of_ble_eq_true rfl⟩ ⟨Nat.zero_le _, Nat.zero_le _⟩ dX11_usedByAll_19 (wb' := [k_Model g a o pasts length printed told state backX backY boxes frees bestFree bestTurned bestFirst bestSecond v spare past kept isKept text paper left top wide high original turn boxX boxY boxW boxH freeAtX freeAtY freeW freeH begins ends tried aside]) rfl b_e0 1 rfl (by decide) (st2 := [.int r4, .int x1]) rfl (fun H locs hw => ?_)
        refine lv_aload_n hx hb dX11_usedByAll_22 rfl (lv_at hl 0 rfl) ?_
        refine lv_iload_n hx hb dX11_usedByAll_23 rfl (lv_at hl 2 rfl) ?_
        refine lv_iconst (v := 0) hx hb dX11_usedByAll_24 (by decide) ?_
        obtain ⟨r5, er5, h⟩ := g_cl_some h
        refine b_callV hx hb hml hown hT hK hA hw mk_X11_297 (c_X11_used l D g a o pasts length printed told state backX backY boxes frees bestFree bestTurned bestFirst bestSecond v spare past kept isKept text paper left top wide high original turn boxX boxY boxW boxH freeAtX freeAtY freeW freeH begins ends tried aside x2 (0 : Int32) r5 er5) [0] [] rfl (by decide) 0 0 rfl rfl rfl rfl hl.1 [.int r4, .int x1] rfl (Nat.le_of_ble_eq_true rfl) ⟨Nat.le_of_ble_eq_true rfl, Nat.le_of_ble_eq_true rfl⟩ ⟨Nat.zero_le _, Nat.zero_le _⟩ dX11_usedByAll_25 (wb' := [k_Model g a o pasts length printed told state backX backY boxes frees bestFree bestTurned bestFirst bestSecond v spare past kept isKept text paper left top wide high original turn boxX boxY boxW boxH freeAtX freeAtY freeW freeH begins ends tried aside]) rfl b_e0 1 rfl (by decide) (st2 := [.int r5, .int r4, .int x1]) rfl (fun H locs hw => ?_)
        refine lv_imul hx hb dX11_usedByAll_28 ?_
        refine lv_iadd hx hb dX11_usedByAll_29 ?_
        obtain ⟨x6, ex6, h⟩ := g_bd_nm h
        refine g_topi ex6 ?_
        refine lv_istore_n (lv' := [(1, .int x6), (0, .ref (a o)), (2, .int x2)]) hx hb dX11_usedByAll_30 rfl hl (by decide) rfl (fun ls hl => ?_)
        obtain ⟨x7, ex7, h⟩ := g_bd_nm h
        refine lv_iinc (v := x7) (lv' := [(2, .int x7), (1, .int x6), (0, .ref (a o))]) hx hb dX11_usedByAll_31 hl (k := 2) rfl (by rw [ex7]; rfl) (by decide) rfl (fun ls hl => ?_)
        refine lv_goto (tgt := 4) hx hb dX11_usedByAll_34 (by decide) ?_
        exact ih4 x6 x7 _ _ _ hw (lv_sub hl [2, 1, 0] rfl) h
  exact hL4 g_fuel (0 : Int32) (0 : Int32) _ _ _ hw (lv_sub hl [2, 1, 0] rfl) h
