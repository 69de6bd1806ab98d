set_option maxRecDepth 100000 in
set_option maxHeartbeats 4000000 in
theorem c_X11_placesOn (l : Launch) (D : va_G) (g : Nat → ClassId) (a : Nat → Nat) (o : Nat) (pasts : Int32) (length : Int32) (printed : Int32) (told : Int32) (state : Int64) (backX : Int32) (backY : Int32) (boxes : Int32) (frees : Int32) (bestFree : Int32) (bestTurned : Int32) (bestFirst : Int32) (bestSecond : Int32) (v : (Nat → Int32)) (spare : (Nat → Int32)) (past : (Nat → Int32)) (kept : (Nat → Int32)) (isKept : (Nat → Int32)) (text : (Nat → Int32)) (paper : (Nat → Int32)) (left : (Nat → Int32)) (top : (Nat → Int32)) (wide : (Nat → Int32)) (high : (Nat → Int32)) (original : (Nat → Int32)) (turn : (Nat → Int32)) (boxX : (Nat → Int32)) (boxY : (Nat → Int32)) (boxW : (Nat → Int32)) (boxH : (Nat → Int32)) (freeAtX : (Nat → Int32)) (freeAtY : (Nat → Int32)) (freeW : (Nat → Int32)) (freeH : (Nat → Int32)) (begins : (Nat → Int32)) (ends : (Nat → Int32)) (tried : (Nat → Int32)) (aside : (Nat → Int32)) (i1 : Int32) (i2 : Int32) (u : Int32 × Int32 × Int32 × Int32 × Int32 × Int32 × Int32 × (Nat → Int32) × (Nat → Int32) × (Nat → Int32) × (Nat → Int32) × (Nat → Int32) × (Nat → Int32) × (Nat → Int32) × (Nat → Int32) × (Nat → Int32) × (Nat → Int32) × (Nat → Int32)) (h : f_X11_placesOn bestTurned bestFirst bestSecond v wide high boxX boxY boxW boxH freeAtX freeAtY freeW freeH begins ends i1 i2 = some u) : b_Ct l yX11_placesOn cX11_placesOn 4 (some .boolean) 5 120 D g [.ref (a o), .int i1, .int i2] [k_Model g a o pasts length printed told state backX backY boxes frees bestFree bestTurned bestFirst bestSecond v spare past kept isKept text paper left top wide high original turn boxX boxY boxW boxH freeAtX freeAtY freeW freeH begins ends tried aside] [k_Model g a o pasts length printed told state backX backY u.2.1 u.2.2.1 u.2.2.2.1 u.2.2.2.2.1 u.2.2.2.2.2.1 u.2.2.2.2.2.2.1 u.2.2.2.2.2.2.2.1 spare past kept isKept text paper left top wide high original turn u.2.2.2.2.2.2.2.2.1 u.2.2.2.2.2.2.2.2.2.1 u.2.2.2.2.2.2.2.2.2.2.1 u.2.2.2.2.2.2.2.2.2.2.2.1 u.2.2.2.2.2.2.2.2.2.2.2.2.1 u.2.2.2.2.2.2.2.2.2.2.2.2.2.1 u.2.2.2.2.2.2.2.2.2.2.2.2.2.2.1 u.2.2.2.2.2.2.2.2.2.2.2.2.2.2.2.1 u.2.2.2.2.2.2.2.2.2.2.2.2.2.2.2.2.1 u.2.2.2.2.2.2.2.2.2.2.2.2.2.2.2.2.2 tried aside] (some (.int u.1)) := by
  refine b_start RX11 (by decide) rfl (Nat.le_of_ble_eq_true rfl) rfl ?_
  intro p e s m args below meth c A ls Q hQ hx hb hr hlk hml hown hT hK hA hw hl
  have hl : lv_has ls 4 [(0, .ref (a o)), (1, .int i1), (2, .int i2)] := hl
  unfold f_X11_placesOn at h
  refine lv_aload_n hx hb dX11_placesOn_0 rfl (lv_at hl 0 rfl) ?_
  refine lv_iload_n hx hb dX11_placesOn_1 rfl (lv_at hl 1 rfl) ?_
  obtain ⟨r1, er1, h⟩ := g_cl_some h
  refine b_callV hx hb hml hown hT hK hA hw mk_X11_234 (c_X11_freesOf l D g a o pasts length printed told state backX backY boxes frees bestFree bestTurned bestFirst bestSecond v spare past kept isKept text paper left top wide high original turn boxX boxY boxW boxH freeAtX freeAtY freeW freeH begins ends tried aside i1 r1 er1) [0] [] rfl (by decide) 0 0 rfl rfl rfl rfl hl.1 [] rfl (Nat.le_of_ble_eq_true rfl) ⟨Nat.le_of_ble_eq_true rfl, Nat.le_of_ble_eq_true rfl⟩ ⟨Nat.zero_le _, Nat.zero_le _⟩ dX11_placesOn_2 (wb' := [k_Model g a o pasts length printed told state backX backY r1.1 r1.2.1 bestFree bestTurned bestFirst bestSecond v spare past kept isKept text paper left top wide high original turn r1.2.2.1 r1.2.2.2.1 r1.2.2.2.2.1 r1.2.2.2.2.2.1 r1.2.2.2.2.2.2.1 r1.2.2.2.2.2.2.2.1 r1.2.2.2.2.2.2.2.2.1 r1.2.2.2.2.2.2.2.2.2.1 r1.2.2.2.2.2.2.2.2.2.2.1 r1.2.2.2.2.2.2.2.2.2.2.2 tried aside]) rfl b_e0 1 rfl (by decide) (st2 := []) rfl (fun H locs hw => ?_)
  refine lv_aload_n hx hb dX11_placesOn_5 rfl (lv_at hl 0 rfl) ?_
  refine lv_iconst (v := -1) hx hb dX11_placesOn_6 (by decide) ?_
  refine b_putf hx hb hT hK hown fl_X11_222 ft_X11 hw 0 0 rfl rfl rfl rfl rfl (Nat.le_of_ble_eq_true rfl) rfl (wb' := [k_Model g a o pasts length printed told state backX backY r1.1 r1.2.1 (-1 : Int32) bestTurned bestFirst bestSecond v spare past kept isKept text paper left top wide high original turn r1.2.2.1 r1.2.2.2.1 r1.2.2.2.2.1 r1.2.2.2.2.2.1 r1.2.2.2.2.2.2.1 r1.2.2.2.2.2.2.2.1 r1.2.2.2.2.2.2.2.2.1 r1.2.2.2.2.2.2.2.2.2.1 r1.2.2.2.2.2.2.2.2.2.2.1 r1.2.2.2.2.2.2.2.2.2.2.2 tried aside]) rfl dX11_placesOn_7 (fun H locs hw => ?_)
  refine lv_iconst (v := 0) hx hb dX11_placesOn_10 (by decide) ?_
  refine lv_istore_n (lv' := [(3, .int (0 : Int32)), (0, .ref (a o)), (1, .int i1), (2, .int i2)]) hx hb dX11_placesOn_11 rfl hl (by decide) rfl (fun ls hl => ?_)
  obtain ⟨k51_5, ek51_5, h⟩ := g_jn_nm h
  have hk51_5 : ∀ (x2 : Int32) (x3 : Int32) (x4 : Int32) (x5 : Int32) (H : Heap) (locs : List Loc) (ls : Array Slot), b_Wd D A s.heap H locs [k_Model g a o pasts length printed told state backX backY r1.1 r1.2.1 x2 x3 x4 x5 v spare past kept isKept text paper left top wide high original turn r1.2.2.1 r1.2.2.2.1 r1.2.2.2.2.1 r1.2.2.2.2.2.1 r1.2.2.2.2.2.2.1 r1.2.2.2.2.2.2.2.1 r1.2.2.2.2.2.2.2.2.1 r1.2.2.2.2.2.2.2.2.2.1 r1.2.2.2.2.2.2.2.2.2.2.1 r1.2.2.2.2.2.2.2.2.2.2.2 tried aside] → lv_has ls 4 [(0, .ref (a o)), (1, .int i1), (2, .int i2)] → k51_5 x2 x3 x4 x5 = some u → W p l e (g_rm 5 120) s m args below meth c H locs 0 0 Q (F0 m 51 ls []) := by
    intro x2 x3 x4 x5 H locs ls hw hl h
    subst ek51_5
    dsimp only at h
    refine lv_aload_n hx hb dX11_placesOn_51 rfl (lv_at hl 0 rfl) ?_
    refine b_get hx hb hT hK hown fl_X11_222 hw 0 0 rfl rfl (v := .int x2) rfl dX11_placesOn_52 ?_
    refine lv_if_ge (tgt := 60) hx hb dX11_placesOn_55 (by decide) (fun hc55 => ?_) (fun hc55 => ?_)
    · rw [if_pos hc55] at h
      refine lv_aload_n hx hb dX11_placesOn_60 rfl (lv_at hl 0 rfl) ?_
      refine b_get hx hb hT hK hown fl_X11_185 hw 0 0 rfl rfl (v := .int r1.1) rfl dX11_placesOn_61 ?_
      obtain ⟨j86_7, ej86_7, h⟩ := g_jn_nm h
      have hj86_7 : ∀ (f7 : Nat → Int32) (H : Heap) (locs : List Loc) (ls : Array Slot), b_Wd D A s.heap H locs [k_Model g a o pasts length printed told state backX backY r1.1 r1.2.1 x2 x3 x4 x5 f7 spare past kept isKept text paper left top wide high original turn r1.2.2.1 r1.2.2.2.1 r1.2.2.2.2.1 r1.2.2.2.2.2.1 r1.2.2.2.2.2.2.1 r1.2.2.2.2.2.2.2.1 r1.2.2.2.2.2.2.2.2.1 r1.2.2.2.2.2.2.2.2.2.1 r1.2.2.2.2.2.2.2.2.2.2.1 r1.2.2.2.2.2.2.2.2.2.2.2 tried aside] → lv_has ls 4 [(0, .ref (a o)), (1, .int i1), (2, .int i2)] → j86_7 f7 = some u → W p l e (g_rm 5 120) s m args below meth c H locs 0 0 Q (F0 m 86 ls []) := by
        intro f7 H locs ls hw hl h
        subst ej86_7
        dsimp only at h
        refine lv_aload_n hx hb dX11_placesOn_86 rfl (lv_at hl 0 rfl) ?_
        refine b_get hx hb hT hK hown fl_X11_7 hw 0 0 rfl rfl (v := .ref (a (o+1))) rfl dX11_placesOn_87 ?_
        refine lv_iload_n hx hb dX11_placesOn_90 rfl (lv_at hl 2 rfl) ?_
        refine lv_iconst (v := 3) hx hb dX11_placesOn_91 (by decide) ?_
        refine b_callS hx hb hml hown hT hK hA hw mk_X11_94 (c_X11_at l D g i2 (3 : Int32)) [] [0] rfl (by decide) rfl hl.1 [.ref (a (o+1))] rfl (Nat.le_of_ble_eq_true rfl) ⟨Nat.le_of_ble_eq_true rfl, Nat.le_of_ble_eq_true rfl⟩ ⟨Nat.zero_le _, Nat.zero_le _⟩ dX11_placesOn_92 (wb' := [k_Model g a o pasts length printed told state backX backY r1.1 r1.2.1 x2 x3 x4 x5 f7 spare past kept isKept text paper left top wide high original turn r1.2.2.1 r1.2.2.2.1 r1.2.2.2.2.1 r1.2.2.2.2.2.1 r1.2.2.2.2.2.2.1 r1.2.2.2.2.2.2.2.1 r1.2.2.2.2.2.2.2.2.1 r1.2.2.2.2.2.2.2.2.2.1 r1.2.2.2.2.2.2.2.2.2.2.1 r1.2.2.2.2.2.2.2.2.2.2.2 tried aside]) rfl (b_e1 rfl b_e0) 1 rfl (by decide) (st2 := [.int (f_X11_at i2 (3 : Int32)), .ref (a (o+1))]) rfl (fun H locs hw => ?_)
        refine lv_iload_n hx hb dX11_placesOn_95 rfl (lv_at hl 1 rfl) ?_
        obtain ⟨f9, ef9, hif9, h⟩ := g_wr_some h
        refine b_iast hx hb hK hw 0 1 rfl (f := f7) rfl hif9 ef9 rfl (wb' := [k_Model g a o pasts length printed told state backX backY r1.1 r1.2.1 x2 x3 x4 x5 f9 spare past kept isKept text paper left top wide high original turn r1.2.2.1 r1.2.2.2.1 r1.2.2.2.2.1 r1.2.2.2.2.2.1 r1.2.2.2.2.2.2.1 r1.2.2.2.2.2.2.2.1 r1.2.2.2.2.2.2.2.2.1 r1.2.2.2.2.2.2.2.2.2.1 r1.2.2.2.2.2.2.2.2.2.2.1 r1.2.2.2.2.2.2.2.2.2.2.2 tried aside]) rfl dX11_placesOn_96 (fun H locs hw => ?_)
        refine lv_aload_n hx hb dX11_placesOn_97 rfl (lv_at hl 0 rfl) ?_
        refine b_get hx hb hT hK hown fl_X11_7 hw 0 0 rfl rfl (v := .ref (a (o+1))) rfl dX11_placesOn_98 ?_
        refine lv_iload_n hx hb dX11_placesOn_101 rfl (lv_at hl 2 rfl) ?_
        refine lv_iconst (v := 4) hx hb dX11_placesOn_102 (by decide) ?_
        refine b_callS hx hb hml hown hT hK hA hw mk_X11_94 (c_X11_at l D g i2 (4 : Int32)) [] [0] rfl (by decide) rfl hl.1 [.ref (a (o+1))] rfl (Nat.le_of_ble_eq_true rfl) ⟨Nat.le_of_ble_eq_true rfl, Nat.le_of_ble_eq_true rfl⟩ ⟨Nat.zero_le _, Nat.zero_le _⟩ dX11_placesOn_103 (wb' := [k_Model g a o pasts length printed told state backX backY r1.1 r1.2.1 x2 x3 x4 x5 f9 spare past kept isKept text paper left top wide high original turn r1.2.2.1 r1.2.2.2.1 r1.2.2.2.2.1 r1.2.2.2.2.2.1 r1.2.2.2.2.2.2.1 r1.2.2.2.2.2.2.2.1 r1.2.2.2.2.2.2.2.2.1 r1.2.2.2.2.2.2.2.2.2.1 r1.2.2.2.2.2.2.2.2.2.2.1 r1.2.2.2.2.2.2.2.2.2.2.2 tried aside]) rfl (b_e1 rfl b_e0) 1 rfl (by decide) (st2 := [.int (f_X11_at i2 (4 : Int32)), .ref (a (o+1))]) rfl (fun H locs hw => ?_)
        refine lv_aload_n hx hb dX11_placesOn_106 rfl (lv_at hl 0 rfl) ?_
        refine b_get hx hb hT hK hown fl_X11_62 hw 0 0 rfl rfl (v := .ref (a (o+18))) rfl dX11_placesOn_107 ?_
        refine lv_aload_n hx hb dX11_placesOn_110 rfl (lv_at hl 0 rfl) ?_
        refine b_get hx hb hT hK hown fl_X11_222 hw 0 0 rfl rfl (v := .int x2) rfl dX11_placesOn_111 ?_
        obtain ⟨x10, ex10, hix10, h⟩ := g_rd_some h
        refine b_iald hx hb hK hw 0 18 rfl (f := r1.2.2.2.2.2.2.1) rfl hix10 ex10 dX11_placesOn_114 ?_
        obtain ⟨f11, ef11, hif11, h⟩ := g_wr_some h
        refine b_iast hx hb hK hw 0 1 rfl (f := f9) rfl hif11 ef11 rfl (wb' := [k_Model g a o pasts length printed told state backX backY r1.1 r1.2.1 x2 x3 x4 x5 f11 spare past kept isKept text paper left top wide high original turn r1.2.2.1 r1.2.2.2.1 r1.2.2.2.2.1 r1.2.2.2.2.2.1 r1.2.2.2.2.2.2.1 r1.2.2.2.2.2.2.2.1 r1.2.2.2.2.2.2.2.2.1 r1.2.2.2.2.2.2.2.2.2.1 r1.2.2.2.2.2.2.2.2.2.2.1 r1.2.2.2.2.2.2.2.2.2.2.2 tried aside]) rfl dX11_placesOn_115 (fun H locs hw => ?_)
        refine lv_aload_n hx hb dX11_placesOn_116 rfl (lv_at hl 0 rfl) ?_
        refine b_get hx hb hT hK hown fl_X11_7 hw 0 0 rfl rfl (v := .ref (a (o+1))) rfl dX11_placesOn_117 ?_
        refine lv_iload_n hx hb dX11_placesOn_120 rfl (lv_at hl 2 rfl) ?_
        refine lv_iconst (v := 5) hx hb dX11_placesOn_121 (by decide) ?_
        refine b_callS hx hb hml hown hT hK hA hw mk_X11_94 (c_X11_at l D g i2 (5 : Int32)) [] [0] rfl (by decide) rfl hl.1 [.ref (a (o+1))] rfl (Nat.le_of_ble_eq_true rfl) ⟨Nat.le_of_ble_eq_true rfl, Nat.le_of_ble_eq_true rfl⟩ ⟨Nat.zero_le _, Nat.zero_le _⟩ dX11_placesOn_122 (wb' := [k_Model g a o pasts length printed told state backX backY r1.1 r1.2.1 x2 x3 x4 x5 f11 spare past kept isKept text paper left top wide high original turn r1.2.2.1 r1.2.2.2.1 r1.2.2.2.2.1 r1.2.2.2.2.2.1 r1.2.2.2.2.2.2.1 r1.2.2.2.2.2.2.2.1 r1.2.2.2.2.2.2.2.2.1 r1.2.2.2.2.2.2.2.2.2.1 r1.2.2.2.2.2.2.2.2.2.2.1 r1.2.2.2.2.2.2.2.2.2.2.2 tried aside]) rfl (b_e1 rfl b_e0) 1 rfl (by decide) (st2 := [.int (f_X11_at i2 (5 : Int32)), .ref (a (o+1))]) rfl (fun H locs hw => ?_)
        refine lv_aload_n hx hb dX11_placesOn_125 rfl (lv_at hl 0 rfl) ?_
        refine b_get hx hb hT hK hown fl_X11_65 hw 0 0 rfl rfl (v := .ref (a (o+19))) rfl dX11_placesOn_126 ?_
        refine lv_aload_n hx hb dX11_placesOn_129 rfl (lv_at hl 0 rfl) ?_
        refine b_get hx hb hT hK hown fl_X11_222 hw 0 0 rfl rfl (v := .int x2) rfl dX11_placesOn_130 ?_
        obtain ⟨x12, ex12, hix12, h⟩ := g_rd_some h
        refine b_iald hx hb hK hw 0 19 rfl (f := r1.2.2.2.2.2.2.2.1) rfl hix12 ex12 dX11_placesOn_133 ?_
        obtain ⟨f13, ef13, hif13, h⟩ := g_wr_some h
        refine b_iast hx hb hK hw 0 1 rfl (f := f11) rfl hif13 ef13 rfl (wb' := [k_Model g a o pasts length printed told state backX backY r1.1 r1.2.1 x2 x3 x4 x5 f13 spare past kept isKept text paper left top wide high original turn r1.2.2.1 r1.2.2.2.1 r1.2.2.2.2.1 r1.2.2.2.2.2.1 r1.2.2.2.2.2.2.1 r1.2.2.2.2.2.2.2.1 r1.2.2.2.2.2.2.2.2.1 r1.2.2.2.2.2.2.2.2.2.1 r1.2.2.2.2.2.2.2.2.2.2.1 r1.2.2.2.2.2.2.2.2.2.2.2 tried aside]) rfl dX11_placesOn_134 (fun H locs hw => ?_)
        refine lv_aload_n hx hb dX11_placesOn_135 rfl (lv_at hl 0 rfl) ?_
        refine b_get hx hb hT hK hown fl_X11_7 hw 0 0 rfl rfl (v := .ref (a (o+1))) rfl dX11_placesOn_136 ?_
        refine lv_iload_n hx hb dX11_placesOn_139 rfl (lv_at hl 2 rfl) ?_
        refine lv_bipush (v := 6) hx hb dX11_placesOn_140 (by decide) ?_
        refine b_callS hx hb hml hown hT hK hA hw mk_X11_94 (c_X11_at l D g i2 (6 : Int32)) [] [0] rfl (by decide) rfl hl.1 [.ref (a (o+1))] rfl (Nat.le_of_ble_eq_true rfl) ⟨Nat.le_of_ble_eq_true rfl, Nat.le_of_ble_eq_true rfl⟩ ⟨Nat.zero_le _, Nat.zero_le _⟩ dX11_placesOn_142 (wb' := [k_Model g a o pasts length printed told state backX backY r1.1 r1.2.1 x2 x3 x4 x5 f13 spare past kept isKept text paper left top wide high original turn r1.2.2.1 r1.2.2.2.1 r1.2.2.2.2.1 r1.2.2.2.2.2.1 r1.2.2.2.2.2.2.1 r1.2.2.2.2.2.2.2.1 r1.2.2.2.2.2.2.2.2.1 r1.2.2.2.2.2.2.2.2.2.1 r1.2.2.2.2.2.2.2.2.2.2.1 r1.2.2.2.2.2.2.2.2.2.2.2 tried aside]) rfl (b_e1 rfl b_e0) 1 rfl (by decide) (st2 := [.int (f_X11_at i2 (6 : Int32)), .ref (a (o+1))]) rfl (fun H locs hw => ?_)
        refine lv_aload_n hx hb dX11_placesOn_145 rfl (lv_at hl 0 rfl) ?_
        refine b_get hx hb hT hK hown fl_X11_231 hw 0 0 rfl rfl (v := .int x3) rfl dX11_placesOn_146 ?_
        obtain ⟨f14, ef14, hif14, h⟩ := g_wr_some h
        refine b_iast hx hb hK hw 0 1 rfl (f := f13) rfl hif14 ef14 rfl (wb' := [k_Model g a o pasts length printed told state backX backY r1.1 r1.2.1 x2 x3 x4 x5 f14 spare past kept isKept text paper left top wide high original turn r1.2.2.1 r1.2.2.2.1 r1.2.2.2.2.1 r1.2.2.2.2.2.1 r1.2.2.2.2.2.2.1 r1.2.2.2.2.2.2.2.1 r1.2.2.2.2.2.2.2.2.1 r1.2.2.2.2.2.2.2.2.2.1 r1.2.2.2.2.2.2.2.2.2.2.1 r1.2.2.2.2.2.2.2.2.2.2.2 tried aside]) rfl dX11_placesOn_149 (fun H locs hw => ?_)
        refine lv_iconst (v := 1) hx hb dX11_placesOn_150 (by decide) ?_
        obtain rfl := Option.some.inj h
        exact b_zret hQ hx hb hr hlk (Or.inr rfl) hw rfl dX11_placesOn_151
      refine lv_if_ne (tgt := 86) hx hb dX11_placesOn_64 (by decide) (fun hc64 => ?_) (fun hc64 => ?_)
      · rw [if_neg hc64] at h
        exact hj86_7 v _ _ _ hw (lv_sub hl [0, 1, 2] rfl) h
      · rw [if_pos hc64] at h
        refine lv_aload_n hx hb dX11_placesOn_67 rfl (lv_at hl 0 rfl) ?_
        refine b_get hx hb hT hK hown fl_X11_7 hw 0 0 rfl rfl (v := .ref (a (o+1))) rfl dX11_placesOn_68 ?_
        refine lv_bipush (v := 14) hx hb dX11_placesOn_71 (by decide) ?_
        refine lv_iload_n hx hb dX11_placesOn_73 rfl (lv_at hl 1 rfl) ?_
        refine lv_iadd hx hb dX11_placesOn_74 ?_
        refine lv_aload_n hx hb dX11_placesOn_75 rfl (lv_at hl 0 rfl) ?_
        refine b_get hx hb hT hK hown fl_X11_7 hw 0 0 rfl rfl (v := .ref (a (o+1))) rfl dX11_placesOn_76 ?_
        refine lv_iload_n hx hb dX11_placesOn_79 rfl (lv_at hl 2 rfl) ?_
        refine lv_iconst (v := 2) hx hb dX11_placesOn_80 (by decide) ?_
        refine b_callS hx hb hml hown hT hK hA hw mk_X11_94 (c_X11_at l D g i2 (2 : Int32)) [] [0] rfl (by decide) rfl hl.1 [.ref (a (o+1)), .int ((14 : Int32) + i1), .ref (a (o+1))] rfl (Nat.le_of_ble_eq_true rfl) ⟨Nat.le_of_ble_eq_true rfl, Nat.le_of_ble_eq_true rfl⟩ ⟨Nat.zero_le _, Nat.zero_le _⟩ dX11_placesOn_81 (wb' := [k_Model g a o pasts length printed told state backX backY r1.1 r1.2.1 x2 x3 x4 x5 v spare past kept isKept text paper left top wide high original turn r1.2.2.1 r1.2.2.2.1 r1.2.2.2.2.1 r1.2.2.2.2.2.1 r1.2.2.2.2.2.2.1 r1.2.2.2.2.2.2.2.1 r1.2.2.2.2.2.2.2.2.1 r1.2.2.2.2.2.2.2.2.2.1 r1.2.2.2.2.2.2.2.2.2.2.1 r1.2.2.2.2.2.2.2.2.2.2.2 tried aside]) rfl (b_e1 rfl b_e0) 1 rfl (by decide) (st2 := [.int (f_X11_at i2 (2 : Int32)), .ref (a (o+1)), .int ((14 : Int32) + i1), .ref (a (o+1))]) rfl (fun H locs hw => ?_)
        obtain ⟨x15, ex15, hix15, h⟩ := g_rd_some h
        refine b_iald hx hb hK hw 0 1 rfl (f := v) rfl hix15 ex15 dX11_placesOn_84 ?_
        obtain ⟨f16, ef16, hif16, h⟩ := g_wr_some h
        refine b_iast hx hb hK hw 0 1 rfl (f := v) rfl hif16 ef16 rfl (wb' := [k_Model g a o pasts length printed told state backX backY r1.1 r1.2.1 x2 x3 x4 x5 f16 spare past kept isKept text paper left top wide high original turn r1.2.2.1 r1.2.2.2.1 r1.2.2.2.2.1 r1.2.2.2.2.2.1 r1.2.2.2.2.2.2.1 r1.2.2.2.2.2.2.2.1 r1.2.2.2.2.2.2.2.2.1 r1.2.2.2.2.2.2.2.2.2.1 r1.2.2.2.2.2.2.2.2.2.2.1 r1.2.2.2.2.2.2.2.2.2.2.2 tried aside]) rfl dX11_placesOn_85 (fun H locs hw => ?_)
        exact hj86_7 f16 _ _ _ hw (lv_sub hl [0, 1, 2] rfl) h
    · rw [if_neg hc55] at h
      refine lv_iconst (v := 0) hx hb dX11_placesOn_58 (by decide) ?_
      obtain rfl := Option.some.inj h
      exact b_zret hQ hx hb hr hlk (Or.inl rfl) hw rfl dX11_placesOn_59
  have hL12 : ∀ (n : Nat) (x17 : Int32) (x18 : Int32) (x19 : Int32) (x20 : Int32) (x21 : Int32) (H : Heap) (locs : List Loc) (ls : Array Slot), b_Wd D A s.heap H locs [k_Model g a o pasts length printed told state backX backY r1.1 r1.2.1 x18 x19 x20 x21 v spare past kept isKept text paper left top wide high original turn r1.2.2.1 r1.2.2.2.1 r1.2.2.2.2.1 r1.2.2.2.2.2.1 r1.2.2.2.2.2.2.1 r1.2.2.2.2.2.2.2.1 r1.2.2.2.2.2.2.2.2.1 r1.2.2.2.2.2.2.2.2.2.1 r1.2.2.2.2.2.2.2.2.2.2.1 r1.2.2.2.2.2.2.2.2.2.2.2 tried aside] → lv_has ls 4 [(0, .ref (a o)), (1, .int i1), (2, .int i2), (3, .int x17)] → f_X11_placesOn_L12 v wide high i2 r1 k51_5 n x17 x18 x19 x20 x21 = some u → W p l e (g_rm 5 120) s m args below meth c H locs 0 0 Q (F0 m 12 ls []) := by
    intro n
    induction n with
    | zero =>
      intro x17 x18 x19 x20 x21 H locs ls hw hl h
      cases (show none = some u from h)
    | succ n ih12 =>
      intro x17 x18 x19 x20 x21 H locs ls hw hl h
      rw [f_X11_placesOn_L12] at h
      refine lv_iload_n hx hb dX11_placesOn_12 rfl (lv_at hl 3 rfl) ?_
      refine lv_aload_n hx hb dX11_placesOn_13 rfl (lv_at hl 0 rfl) ?_
      refine b_get hx hb hT hK hown fl_X11_200 hw 0 0 rfl rfl (v := .int r1.2.1) rfl dX11_placesOn_14 ?_
      refine lv_icmp_ge (tgt := 51) hx hb dX11_placesOn_17 (by decide) (fun hc17 => ?_) (fun hc17 => ?_)
      · rw [if_pos hc17] at h
        exact hk51_5 x18 x19 x20 x21 _ _ _ hw (lv_sub hl [0, 1, 2] rfl) h
      · rw [if_neg hc17] at h
        refine lv_aload_n hx hb dX11_placesOn_20 rfl (lv_at hl 0 rfl) ?_
        refine lv_iload_n hx hb dX11_placesOn_21 rfl (lv_at hl 3 rfl) ?_
        refine lv_iload_n hx hb dX11_placesOn_22 rfl (lv_at hl 2 rfl) ?_
        refine lv_iconst (v := 0) hx hb dX11_placesOn_23 (by decide) ?_
        obtain ⟨r22, er22, h⟩ := g_cl_some h
        refine b_callV hx hb hml hown hT hK hA hw mk_X11_237 (c_X11_values l D g a o pasts length printed told state backX backY r1.1 r1.2.1 x18 x19 x20 x21 v spare past kept isKept text paper left top wide high original turn r1.2.2.1 r1.2.2.2.1 r1.2.2.2.2.1 r1.2.2.2.2.2.1 r1.2.2.2.2.2.2.1 r1.2.2.2.2.2.2.2.1 r1.2.2.2.2.2.2.2.2.1 r1.2.2.2.2.2.2.2.2.2.1 r1.2.2.2.2.2.2.2.2.2.2.1 r1.2.2.2.2.2.2.2.2.2.2.2 tried aside x17 i2 (0 : Int32) r22 er22) [0] [] rfl (by decide) 0 0 rfl rfl rfl rfl hl.1 [] rfl (Nat.le_of_ble_eq_true rfl) ⟨Nat.le_of_ble_eq_true rfl, Nat.le_of_ble_eq_true rfl⟩ ⟨Nat.zero_le _, Nat.zero_le _⟩ dX11_placesOn_24 (wb' := [k_Model g a o pasts length printed told state backX backY r1.1 r1.2.1 r22.1 r22.2.1 r22.2.2.1 r22.2.2.2 v spare past kept isKept text paper left top wide high original turn r1.2.2.1 r1.2.2.2.1 r1.2.2.2.2.1 r1.2.2.2.2.2.1 r1.2.2.2.2.2.2.1 r1.2.2.2.2.2.2.2.1 r1.2.2.2.2.2.2.2.2.1 r1.2.2.2.2.2.2.2.2.2.1 r1.2.2.2.2.2.2.2.2.2.2.1 r1.2.2.2.2.2.2.2.2.2.2.2 tried aside]) rfl b_e0 1 rfl (by decide) (st2 := []) rfl (fun H locs hw => ?_)
        refine lv_aload_n hx hb dX11_placesOn_27 rfl (lv_at hl 0 rfl) ?_
        refine b_get hx hb hT hK hown fl_X11_7 hw 0 0 rfl rfl (v := .ref (a (o+1))) rfl dX11_placesOn_28 ?_
        refine lv_bipush (v := 9) hx hb dX11_placesOn_31 (by decide) ?_
        obtain ⟨x23, ex23, hix23, h⟩ := g_rd_some h
        refine b_iald hx hb hK hw 0 1 rfl (f := v) rfl hix23 ex23 dX11_placesOn_33 ?_
        refine lv_iconst (v := 1) hx hb dX11_placesOn_34 (by decide) ?_
        obtain ⟨j45_27, ej45_27, h⟩ := g_jn_nm h
        have hj45_27 : ∀ (x24 : Int32) (x25 : Int32) (x26 : Int32) (x27 : Int32) (H : Heap) (locs : List Loc) (ls : Array Slot), b_Wd D A s.heap H locs [k_Model g a o pasts length printed told state backX backY r1.1 r1.2.1 x24 x25 x26 x27 v spare past kept isKept text paper left top wide high original turn r1.2.2.1 r1.2.2.2.1 r1.2.2.2.2.1 r1.2.2.2.2.2.1 r1.2.2.2.2.2.2.1 r1.2.2.2.2.2.2.2.1 r1.2.2.2.2.2.2.2.2.1 r1.2.2.2.2.2.2.2.2.2.1 r1.2.2.2.2.2.2.2.2.2.2.1 r1.2.2.2.2.2.2.2.2.2.2.2 tried aside] → lv_has ls 4 [(0, .ref (a o)), (1, .int i1), (2, .int i2), (3, .int x17)] → j45_27 x24 x25 x26 x27 = some u → W p l e (g_rm 5 120) s m args below meth c H locs 0 0 Q (F0 m 45 ls []) := by
          intro x24 x25 x26 x27 H locs ls hw hl h
          subst ej45_27
          dsimp only at h
          obtain ⟨x29, ex29, h⟩ := g_bd_nm h
          refine lv_iinc (v := x29) (lv' := [(3, .int x29), (0, .ref (a o)), (1, .int i1), (2, .int i2)]) hx hb dX11_placesOn_45 hl (k := 3) rfl (by rw [ex29]; rfl) (by decide) rfl (fun ls hl => ?_)
          refine lv_goto (tgt := 12) hx hb dX11_placesOn_48 (by decide) ?_
          exact ih12 x29 x24 x25 x26 x27 _ _ _ hw (lv_sub hl [1, 2, 3, 0] rfl) h
        refine lv_icmp_ne (tgt := 45) hx hb dX11_placesOn_35 (by decide) (fun hc35 => ?_) (fun hc35 => ?_)
        · rw [if_neg hc35] at h
          exact hj45_27 r22.1 r22.2.1 r22.2.2.1 r22.2.2.2 _ _ _ hw (lv_sub hl [0, 1, 2, 3] rfl) h
        · rw [if_pos hc35] at h
          refine lv_aload_n hx hb dX11_placesOn_38 rfl (lv_at hl 0 rfl) ?_
          refine lv_iload_n hx hb dX11_placesOn_39 rfl (lv_at hl 3 rfl) ?_
          refine lv_iload_n hx hb dX11_placesOn_40 rfl (lv_at hl 2 rfl) ?_
          refine lv_iconst (v := 1) hx hb dX11_placesOn_41 (by decide) ?_
          obtain ⟨r30, er30, h⟩ := g_cl_some h
          refine b_callV hx hb hml hown hT hK hA hw mk_X11_237 (c_X11_values l D g a o pasts length printed told state backX backY r1.1 r1.2.1 r22.1 r22.2.1 r22.2.2.1 r22.2.2.2 v spare past kept isKept text paper left top wide high original turn r1.2.2.1 r1.2.2.2.1 r1.2.2.2.2.1 r1.2.2.2.2.2.1 r1.2.2.2.2.2.2.1 r1.2.2.2.2.2.2.2.1 r1.2.2.2.2.2.2.2.2.1 r1.2.2.2.2.2.2.2.2.2.1 r1.2.2.2.2.2.2.2.2.2.2.1 r1.2.2.2.2.2.2.2.2.2.2.2 tried aside x17 i2 (1 : Int32) r30 er30) [0] [] rfl (by decide) 0 0 rfl rfl rfl rfl hl.1 [] rfl (Nat.le_of_ble_eq_true rfl) ⟨Nat.le_of_ble_eq_true rfl, Nat.le_of_ble_eq_true rfl⟩ ⟨Nat.zero_le _, Nat.zero_le _⟩ dX11_placesOn_42 (wb' := [k_Model g a o pasts length printed told state backX backY r1.1 r1.2.1 r30.1 r30.2.1 r30.2.2.1 r30.2.2.2 v spare past kept isKept text paper left top wide high original turn r1.2.2.1 r1.2.2.2.1 r1.2.2.2.2.1 r1.2.2.2.2.2.1 r1.2.2.2.2.2.2.1 r1.2.2.2.2.2.2.2.1 r1.2.2.2.2.2.2.2.2.1 r1.2.2.2.2.2.2.2.2.2.1 r1.2.2.2.2.2.2.2.2.2.2.1 r1.2.2.2.2.2.2.2.2.2.2.2 tried aside]) rfl b_e0 1 rfl (by decide) (st2 := []) rfl (fun H locs hw => ?_)
          exact hj45_27 r30.1 r30.2.1 r30.2.2.1 r30.2.2.2 _ _ _ hw (lv_sub hl [0, 1, 2, 3] rfl) h
  exact hL12 g_fuel (0 : Int32) (-1 : Int32) bestTurned bestFirst bestSecond _ _ _ hw (lv_sub hl [1, 2, 3, 0] rfl) h
set_option maxRecDepth 100000 in
set_option maxHeartbeats 4000000 in
theorem c_X11_isOpen (l : Launch) (D : va_G) (g : Nat → ClassId) (a : Nat → Nat) (o : Nat) (pasts : Int32) (length : Int32) (printed : Int32) (told : Int32) (state : Int64) (backX : Int32) (backY : Int32) (boxes : Int32) (frees : Int32) (bestFree : Int32) (bestTurned : Int32) (bestFirst : Int32) (bestSecond : Int32) (v : (Nat → Int32)) (spare : (Nat → Int32)) (past : (Nat → Int32)) (kept : (Nat → Int32)) (isKept : (Nat → Int32)) (text : (Nat → Int32)) (paper : (Nat → Int32)) (left : (Nat → Int32)) (top : (Nat → Int32)) (wide : (Nat → Int32)) (high : (Nat → Int32)) (original : (Nat → Int32)) (turn : (Nat → Int32)) (boxX : (Nat → Int32)) (boxY : (Nat → Int32)) (boxW : (Nat → Int32)) (boxH : (Nat → Int32)) (freeAtX : (Nat → Int32)) (freeAtY : (Nat → Int32)) (freeW : (Nat → Int32)) (freeH : (Nat → Int32)) (begins : (Nat → Int32)) (ends : (Nat → Int32)) (tried : (Nat → Int32)) (aside : (Nat → Int32)) (i1 : Int32) (i2 : Int32) (u : Int32 × Int32 × (Nat → Int32) × (Nat → Int32) × (Nat → Int32) × (Nat → Int32)) (h : f_X11_isOpen v wide high boxX boxY boxW boxH i1 i2 = some u) : b_Ct l yX11_isOpen cX11_isOpen 3 (some .boolean) 3 67 D g [.ref (a o), .int i1, .int i2] [k_Model g a o pasts length printed told state backX backY boxes frees bestFree bestTurned bestFirst bestSecond v spare past kept isKept text paper left top wide high original turn boxX boxY boxW boxH freeAtX freeAtY freeW freeH begins ends tried aside] [k_Model g a o pasts length printed told state backX backY u.2.1 frees bestFree bestTurned bestFirst bestSecond v spare past kept isKept text paper left top wide high original turn u.2.2.1 u.2.2.2.1 u.2.2.2.2.1 u.2.2.2.2.2 freeAtX freeAtY freeW freeH begins ends tried aside] (some (.int u.1)) := by
  refine b_start RX11 (by decide) rfl (Nat.le_of_ble_eq_true rfl) rfl ?_
  intro p e s m args below meth c A ls Q hQ hx hb hr hlk hml hown hT hK hA hw hl
  have hl : lv_has ls 3 [(0, .ref (a o)), (1, .int i1), (2, .int i2)] := hl
  unfold f_X11_isOpen at h
  refine lv_aload_n hx hb dX11_isOpen_0 rfl (lv_at hl 0 rfl) ?_
  refine lv_iload_n hx hb dX11_isOpen_1 rfl (lv_at hl 1 rfl) ?_
  obtain ⟨r1, er1, h⟩ := g_cl_some h
  refine b_callV hx hb hml hown hT hK hA hw mk_X11_213 (c_X11_boxesOf l D g a o pasts length printed told state backX backY boxes frees bestFree bestTurned bestFirst bestSecond v spare past kept isKept text paper left top wide high original turn boxX boxY boxW boxH freeAtX freeAtY freeW freeH begins ends tried aside i1 r1 er1) [0] [] rfl (by decide) 0 0 rfl rfl rfl rfl hl.1 [] rfl (Nat.le_of_ble_eq_true rfl) ⟨Nat.le_of_ble_eq_true rfl, Nat.le_of_ble_eq_true rfl⟩ ⟨Nat.zero_le _, Nat.zero_le _⟩ dX11_isOpen_2 (wb' := [k_Model g a o pasts length printed told state backX backY r1.1 frees bestFree bestTurned bestFirst bestSecond v spare past kept isKept text paper left top wide high original turn r1.2.1 r1.2.2.1 r1.2.2.2.1 r1.2.2.2.2 freeAtX freeAtY freeW freeH begins ends tried aside]) rfl b_e0 1 rfl (by decide) (st2 := []) rfl (fun H locs hw => ?_)
  refine lv_aload_n hx hb dX11_isOpen_5 rfl (lv_at hl 0 rfl) ?_
  refine b_get hx hb hT hK hown fl_X11_7 hw 0 0 rfl rfl (v := .ref (a (o+1))) rfl dX11_isOpen_6 ?_
  refine lv_bipush (v := 10) hx hb dX11_isOpen_9 (by decide) ?_
  obtain ⟨x2, ex2, hix2, h⟩ := g_rd_some h
  refine b_iald hx hb hK hw 0 1 rfl (f := v) rfl hix2 ex2 dX11_isOpen_11 ?_
  refine lv_if_eq (tgt := 44) hx hb dX11_isOpen_12 (by decide) (fun hc12 => ?_) (fun hc12 => ?_)
  · rw [if_pos hc12] at h
    refine lv_iconst (v := 1) hx hb dX11_isOpen_44 (by decide) ?_
    refine lv_goto (tgt := 49) hx hb dX11_isOpen_45 (by decide) ?_
    obtain rfl := Option.some.inj h
    exact b_zret hQ hx hb hr hlk (Or.inr rfl) hw rfl dX11_isOpen_49
  · rw [if_neg hc12] at h
    refine lv_aload_n hx hb dX11_isOpen_15 rfl (lv_at hl 0 rfl) ?_
    refine b_get hx hb hT hK hown fl_X11_185 hw 0 0 rfl rfl (v := .int r1.1) rfl dX11_isOpen_16 ?_
    refine lv_if_eq (tgt := 44) hx hb dX11_isOpen_19 (by decide) (fun hc19 => ?_) (fun hc19 => ?_)
    · rw [if_pos hc19] at h
      refine lv_iconst (v := 1) hx hb dX11_isOpen_44 (by decide) ?_
      refine lv_goto (tgt := 49) hx hb dX11_isOpen_45 (by decide) ?_
      obtain rfl := Option.some.inj h
      exact b_zret hQ hx hb hr hlk (Or.inr rfl) hw rfl dX11_isOpen_49
    · rw [if_neg hc19] at h
      refine lv_aload_n hx hb dX11_isOpen_22 rfl (lv_at hl 0 rfl) ?_
      refine b_get hx hb hT hK hown fl_X11_7 hw 0 0 rfl rfl (v := .ref (a (o+1))) rfl dX11_isOpen_23 ?_
      refine lv_bipush (v := 14) hx hb dX11_isOpen_26 (by decide) ?_
      refine lv_iload_n hx hb dX11_isOpen_28 rfl (lv_at hl 1 rfl) ?_
      refine lv_iadd hx hb dX11_isOpen_29 ?_
      obtain ⟨x3, ex3, hix3, h⟩ := g_rd_some h
      refine b_iald hx hb hK hw 0 1 rfl (f := v) rfl hix3 ex3 dX11_isOpen_30 ?_
      refine lv_aload_n hx hb dX11_isOpen_31 rfl (lv_at hl 0 rfl) ?_
      refine b_get hx hb hT hK hown fl_X11_7 hw 0 0 rfl rfl (v := .ref (a (o+1))) rfl dX11_isOpen_32 ?_
      refine lv_iload_n hx hb dX11_isOpen_35 rfl (lv_at hl 2 rfl) ?_
      refine lv_iconst (v := 2) hx hb dX11_isOpen_36 (by decide) ?_
      refine b_callS hx hb hml hown hT hK hA hw mk_X11_94 (c_X11_at l D g i2 (2 : Int32)) [] [0] rfl (by decide) rfl hl.1 [.ref (a (o+1)), .int x3] rfl (Nat.le_of_ble_eq_true rfl) ⟨Nat.le_of_ble_eq_true rfl, Nat.le_of_ble_eq_true rfl⟩ ⟨Nat.zero_le _, Nat.zero_le _⟩ dX11_isOpen_37 (wb' := [k_Model g a o pasts length printed told state backX backY r1.1 frees bestFree bestTurned bestFirst bestSecond v spare past kept isKept text paper left top wide high original turn r1.2.1 r1.2.2.1 r1.2.2.2.1 r1.2.2.2.2 freeAtX freeAtY freeW freeH begins ends tried aside]) rfl (b_e1 rfl b_e0) 1 rfl (by decide) (st2 := [.int (f_X11_at i2 (2 : Int32)), .ref (a (o+1)), .int x3]) rfl (fun H locs hw => ?_)
      obtain ⟨x4, ex4, hix4, h⟩ := g_rd_some h
      refine b_iald hx hb hK hw 0 1 rfl (f := v) rfl hix4 ex4 dX11_isOpen_40 ?_
      refine lv_icmp_ne (tgt := 48) hx hb dX11_isOpen_41 (by decide) (fun hc41 => ?_) (fun hc41 => ?_)
      · rw [if_neg hc41] at h
        refine lv_iconst (v := 0) hx hb dX11_isOpen_48 (by decide) ?_
        obtain rfl := Option.some.inj h
        exact b_zret hQ hx hb hr hlk (Or.inl rfl) hw rfl dX11_isOpen_49
      · rw [if_pos hc41] at h
        refine lv_iconst (v := 1) hx hb dX11_isOpen_44 (by decide) ?_
        refine lv_goto (tgt := 49) hx hb dX11_isOpen_45 (by decide) ?_
        obtain rfl := Option.some.inj h
        exact b_zret hQ hx hb hr hlk (Or.inr rfl) hw rfl dX11_isOpen_49
set_option maxRecDepth 100000 in
set_option maxHeartbeats 4000000 in
theorem c_X11_places (l : Launch) (D : va_G) (g : Nat → ClassId) (a : Nat → Nat) (o : Nat) (pasts : Int32) (length : Int32) (printed : Int32) (told : Int32) (state : Int64) (backX : Int32) (backY : Int32) (boxes : Int32) (frees : Int32) (bestFree : Int32) (bestTurned : Int32) (bestFirst : Int32) (bestSecond : Int32) (v : (Nat → Int32)) (spare : (Nat → Int32)) (past : (Nat → Int32)) (kept : (Nat → Int32)) (isKept : (Nat → Int32)) (text : (Nat → Int32)) (paper : (Nat → Int32)) (left : (Nat → Int32)) (top : (Nat → Int32)) (wide : (Nat → Int32)) (high : (Nat → Int32)) (original : (Nat → Int32)) (turn : (Nat → Int32)) (boxX : (Nat → Int32)) (boxY : (Nat → Int32)) (boxW : (Nat → Int32)) (boxH : (Nat → Int32)) (freeAtX : (Nat → Int32)) (freeAtY : (Nat → Int32)) (freeW : (Nat → Int32)) (freeH : (Nat → Int32)) (begins : (Nat → Int32)) (ends : (Nat → Int32)) (tried : (Nat → Int32)) (aside : (Nat → Int32)) (i1 : Int32) (u : Int32 × Int32 × Int32 × Int32 × Int32 × Int32 × Int32 × (Nat → Int32) × (Nat → Int32) × (Nat → Int32) × (Nat → Int32) × (Nat → Int32) × (Nat → Int32) × (Nat → Int32) × (Nat → Int32) × (Nat → Int32) × (Nat → Int32) × (Nat → Int32)) (h : f_X11_places boxes frees bestFree bestTurned bestFirst bestSecond v wide high boxX boxY boxW boxH freeAtX freeAtY freeW freeH begins ends i1 = some u) : b_Ct l yX11_places cX11_places 4 (some .boolean) 6 143 D g [.ref (a o), .int i1] [k_Model g a o pasts length printed told state backX backY boxes frees bestFree bestTurned bestFirst bestSecond v spare past kept isKept text paper left top wide high original turn boxX boxY boxW boxH freeAtX freeAtY freeW freeH begins ends tried aside] [k_Model g a o pasts length printed told state backX backY u.2.1 u.2.2.1 u.2.2.2.1 u.2.2.2.2.1 u.2.2.2.2.2.1 u.2.2.2.2.2.2.1 u.2.2.2.2.2.2.2.1 spare past kept isKept text paper left top wide high original turn u.2.2.2.2.2.2.2.2.1 u.2.2.2.2.2.2.2.2.2.1 u.2.2.2.2.2.2.2.2.2.2.1 u.2.2.2.2.2.2.2.2.2.2.2.1 u.2.2.2.2.2.2.2.2.2.2.2.2.1 u.2.2.2.2.2.2.2.2.2.2.2.2.2.1 u.2.2.2.2.2.2.2.2.2.2.2.2.2.2.1 u.2.2.2.2.2.2.2.2.2.2.2.2.2.2.2.1 u.2.2.2.2.2.2.2.2.2.2.2.2.2.2.2.2.1 u.2.2.2.2.2.2.2.2.2.2.2.2.2.2.2.2.2 tried aside] (some (.int u.1)) := by
  refine b_start RX11 (by decide) rfl (Nat.le_of_ble_eq_true rfl) rfl ?_
  intro p e s m args below meth c A ls Q hQ hx hb hr hlk hml hown hT hK hA hw hl
  have hl : lv_has ls 4 [(0, .ref (a o)), (1, .int i1)] := hl
  unfold f_X11_places at h
  refine lv_iconst (v := 0) hx hb dX11_places_0 (by decide) ?_
  refine lv_istore_n (lv' := [(2, .int (0 : Int32)), (0, .ref (a o)), (1, .int i1)]) hx hb dX11_places_1 rfl hl (by decide) rfl (fun ls hl => ?_)
  refine lv_iconst (v := 0) hx hb dX11_places_2 (by decide) ?_
  refine lv_istore_n (lv' := [(3, .int (0 : Int32)), (2, .int (0 : Int32)), (0, .ref (a o)), (1, .int i1)]) hx hb dX11_places_3 rfl hl (by decide) rfl (fun ls hl => ?_)
  obtain ⟨k49_18, ek49_18, h⟩ := g_jn_nm h
  have hk49_18 : ∀ (x1 : Int32) (x2 : Int32) (x3 : Int32) (x4 : Int32) (x5 : Int32) (x6 : Int32) (x7 : Int32) (f8 : Nat → Int32) (f9 : Nat → Int32) (f10 : Nat → Int32) (f11 : Nat → Int32) (f12 : Nat → Int32) (f13 : Nat → Int32) (f14 : Nat → Int32) (f15 : Nat → Int32) (f16 : Nat → Int32) (f17 : Nat → Int32) (f18 : Nat → Int32) (H : Heap) (locs : List Loc) (ls : Array Slot), b_Wd D A s.heap H locs [k_Model g a o pasts length printed told state backX backY x2 x3 x4 x5 x6 x7 f8 spare past kept isKept text paper left top wide high original turn f9 f10 f11 f12 f13 f14 f15 f16 f17 f18 tried aside] → lv_has ls 4 [(0, .ref (a o)), (1, .int i1), (2, .int x1)] → k49_18 x1 x2 x3 x4 x5 x6 x7 f8 f9 f10 f11 f12 f13 f14 f15 f16 f17 f18 = some u → W p l e (g_rm 6 143) s m args below meth c H locs 0 0 Q (F0 m 49 ls []) := by
    intro x1 x2 x3 x4 x5 x6 x7 f8 f9 f10 f11 f12 f13 f14 f15 f16 f17 f18 H locs ls hw hl h
    subst ek49_18
    dsimp only at h
    refine lv_iload_n hx hb dX11_places_49 rfl (lv_at hl 2 rfl) ?_
    refine lv_if_ne (tgt := 101) hx hb dX11_places_50 (by decide) (fun hc50 => ?_) (fun hc50 => ?_)
    · rw [if_neg hc50] at h
      refine lv_iload_n hx hb dX11_places_101 rfl (lv_at hl 2 rfl) ?_
      obtain ⟨z30, h⟩ := g_z_some h
      obtain rfl := Option.some.inj h
      exact b_zret hQ hx hb hr hlk z30 hw rfl dX11_places_102
    · rw [if_pos hc50] at h
      refine lv_aload_n hx hb dX11_places_53 rfl (lv_at hl 0 rfl) ?_
      refine b_get hx hb hT hK hown fl_X11_7 hw 0 0 rfl rfl (v := .ref (a (o+1))) rfl dX11_places_54 ?_
      refine lv_bipush (v := 13) hx hb dX11_places_57 (by decide) ?_
      obtain ⟨x20, ex20, hix20, h⟩ := g_rd_some h
      refine b_iald hx hb hK hw 0 1 rfl (f := f8) rfl hix20 ex20 dX11_places_59 ?_
      refine lv_aload_n hx hb dX11_places_60 rfl (lv_at hl 0 rfl) ?_
      refine b_get hx hb hT hK hown fl_X11_7 hw 0 0 rfl rfl (v := .ref (a (o+1))) rfl dX11_places_61 ?_
      refine lv_iconst (v := 3) hx hb dX11_places_64 (by decide) ?_
      obtain ⟨x21, ex21, hix21, h⟩ := g_rd_some h
      refine b_iald hx hb hK hw 0 1 rfl (f := f8) rfl hix21 ex21 dX11_places_65 ?_
      refine lv_icmp_ge (tgt := 101) hx hb dX11_places_66 (by decide) (fun hc66 => ?_) (fun hc66 => ?_)
      · rw [if_pos hc66] at h
        refine lv_iload_n hx hb dX11_places_101 rfl (lv_at hl 2 rfl) ?_
        obtain ⟨z22, h⟩ := g_z_some h
        obtain rfl := Option.some.inj h
        exact b_zret hQ hx hb hr hlk z22 hw rfl dX11_places_102
      · rw [if_neg hc66] at h
        refine lv_aload_n hx hb dX11_places_69 rfl (lv_at hl 0 rfl) ?_
        refine lv_aload_n hx hb dX11_places_70 rfl (lv_at hl 0 rfl) ?_
        refine b_get hx hb hT hK hown fl_X11_7 hw 0 0 rfl rfl (v := .ref (a (o+1))) rfl dX11_places_71 ?_
        refine lv_bipush (v := 13) hx hb dX11_places_74 (by decide) ?_
        obtain ⟨x23, ex23, hix23, h⟩ := g_rd_some h
        refine b_iald hx hb hK hw 0 1 rfl (f := f8) rfl hix23 ex23 dX11_places_76 ?_
        refine lv_iload_n hx hb dX11_places_77 rfl (lv_at hl 1 rfl) ?_
        obtain ⟨r24, er24, h⟩ := g_cl_some h
        refine b_callV hx hb hml hown hT hK hA hw mk_X11_245 (c_X11_placesOn l D g a o pasts length printed told state backX backY x2 x3 x4 x5 x6 x7 f8 spare past kept isKept text paper left top wide high original turn f9 f10 f11 f12 f13 f14 f15 f16 f17 f18 tried aside x23 i1 r24 er24) [0] [] rfl (by decide) 0 0 rfl rfl rfl rfl hl.1 [] rfl (Nat.le_of_ble_eq_true rfl) ⟨Nat.le_of_ble_eq_true rfl, Nat.le_of_ble_eq_true rfl⟩ ⟨Nat.zero_le _, Nat.zero_le _⟩ dX11_places_78 (wb' := [k_Model g a o pasts length printed told state backX backY r24.2.1 r24.2.2.1 r24.2.2.2.1 r24.2.2.2.2.1 r24.2.2.2.2.2.1 r24.2.2.2.2.2.2.1 r24.2.2.2.2.2.2.2.1 spare past kept isKept text paper left top wide high original turn r24.2.2.2.2.2.2.2.2.1 r24.2.2.2.2.2.2.2.2.2.1 r24.2.2.2.2.2.2.2.2.2.2.1 r24.2.2.2.2.2.2.2.2.2.2.2.1 r24.2.2.2.2.2.2.2.2.2.2.2.2.1 r24.2.2.2.2.2.2.2.2.2.2.2.2.2.1 r24.2.2.2.2.2.2.2.2.2.2.2.2.2.2.1 r24.2.2.2.2.2.2.2.2.2.2.2.2.2.2.2.1 r24.2.2.2.2.2.2.2.2.2.2.2.2.2.2.2.2.1 r24.2.2.2.2.2.2.2.2.2.2.2.2.2.2.2.2.2 tried aside]) rfl b_e0 1 rfl (by decide) (st2 := [.int r24.1]) rfl (fun H locs hw => ?_)
        refine lv_istore_n (lv' := [(2, .int r24.1), (0, .ref (a o)), (1, .int i1)]) hx hb dX11_places_81 rfl hl (by decide) rfl (fun ls hl => ?_)
        refine lv_aload_n hx hb dX11_places_82 rfl (lv_at hl 1 rfl) ?_
        refine b_get hx hb hT hK hown fl_X11_7 hw 0 0 rfl rfl (v := .ref (a (o+1))) rfl dX11_places_83 ?_
        refine lv_bipush (v := 13) hx hb dX11_places_86 (by decide) ?_
        refine lv_dup2_11 hx hb dX11_places_88 rfl rfl ?_
        obtain ⟨x25, ex25, hix25, h⟩ := g_rd_some h
        refine b_iald hx hb hK hw 0 1 rfl (f := r24.2.2.2.2.2.2.2.1) rfl hix25 ex25 dX11_places_89 ?_
        refine lv_iload_n hx hb dX11_places_90 rfl (lv_at hl 0 rfl) ?_
        obtain ⟨j99_26, ej99_26, h⟩ := g_bd_k h
        have hj99_26 : ∀ (x26 : Int32) (H : Heap) (locs : List Loc) (ls : Array Slot), b_Wd D A s.heap H locs [k_Model g a o pasts length printed told state backX backY r24.2.1 r24.2.2.1 r24.2.2.2.1 r24.2.2.2.2.1 r24.2.2.2.2.2.1 r24.2.2.2.2.2.2.1 r24.2.2.2.2.2.2.2.1 spare past kept isKept text paper left top wide high original turn r24.2.2.2.2.2.2.2.2.1 r24.2.2.2.2.2.2.2.2.2.1 r24.2.2.2.2.2.2.2.2.2.2.1 r24.2.2.2.2.2.2.2.2.2.2.2.1 r24.2.2.2.2.2.2.2.2.2.2.2.2.1 r24.2.2.2.2.2.2.2.2.2.2.2.2.2.1 r24.2.2.2.2.2.2.2.2.2.2.2.2.2.2.1 r24.2.2.2.2.2.2.2.2.2.2.2.2.2.2.2.1 r24.2.2.2.2.2.2.2.2.2.2.2.2.2.2.2.2.1 r24.2.2.2.2.2.2.2.2.2.2.2.2.2.2.2.2.2 tried aside] → lv_has ls 4 [(2, .int r24.1)] → j99_26 x26 = some u → W p l e (g_rm 6 143) s m args below meth c H locs 0 0 Q (F0 m 99 ls [.int x26, .int x25, .int (13 : Int32), .ref (a (o+1))]) := by
          intro x26 H locs ls hw hl h
          subst ej99_26
          dsimp only at h
          refine lv_iadd hx hb dX11_places_99 ?_
          obtain ⟨x27, ex27, h⟩ := g_bd_nm h
          refine g_topi ex27 ?_
          obtain ⟨f28, ef28, hif28, h⟩ := g_wr_some h
          refine b_iast hx hb hK hw 0 1 rfl (f := r24.2.2.2.2.2.2.2.1) rfl hif28 ef28 rfl (wb' := [k_Model g a o pasts length printed told state backX backY r24.2.1 r24.2.2.1 r24.2.2.2.1 r24.2.2.2.2.1 r24.2.2.2.2.2.1 r24.2.2.2.2.2.2.1 f28 spare past kept isKept text paper left top wide high original turn r24.2.2.2.2.2.2.2.2.1 r24.2.2.2.2.2.2.2.2.2.1 r24.2.2.2.2.2.2.2.2.2.2.1 r24.2.2.2.2.2.2.2.2.2.2.2.1 r24.2.2.2.2.2.2.2.2.2.2.2.2.1 r24.2.2.2.2.2.2.2.2.2.2.2.2.2.1 r24.2.2.2.2.2.2.2.2.2.2.2.2.2.2.1 r24.2.2.2.2.2.2.2.2.2.2.2.2.2.2.2.1 r24.2.2.2.2.2.2.2.2.2.2.2.2.2.2.2.2.1 r24.2.2.2.2.2.2.2.2.2.2.2.2.2.2.2.2.2 tried aside]) rfl dX11_places_100 (fun H locs hw => ?_)
          refine lv_iload_n hx hb dX11_places_101 rfl (lv_at hl 0 rfl) ?_
          obtain ⟨z29, h⟩ := g_z_some h
          obtain rfl := Option.some.inj h
          exact b_zret hQ hx hb hr hlk z29 hw rfl dX11_places_102
        refine lv_if_eq (tgt := 98) hx hb dX11_places_91 (by decide) (fun hc91 => ?_) (fun hc91 => ?_)
        · rw [if_pos hc91] at h
          refine lv_iconst (v := 0) hx hb dX11_places_98 (by decide) ?_
          exact hj99_26 (0 : Int32) _ _ _ hw (lv_sub hl [0] rfl) h
        · rw [if_neg hc91] at h
          refine lv_iconst (v := 1) hx hb dX11_places_94 (by decide) ?_
          refine lv_goto (tgt := 99) hx hb dX11_places_95 (by decide) ?_
          exact hj99_26 (1 : Int32) _ _ _ hw (lv_sub hl [0] rfl) h
  have hL4 : ∀ (n : Nat) (x31 : Int32) (x32 : Int32) (x33 : Int32) (x34 : Int32) (x35 : Int32) (x36 : Int32) (x37 : Int32) (x38 : Int32) (f39 : Nat → Int32) (f40 : Nat → Int32) (f41 : Nat → Int32) (f42 : Nat → Int32) (f43 : Nat → Int32) (f44 : Nat → Int32) (f45 : Nat → Int32) (f46 : Nat → Int32) (f47 : Nat → Int32) (f48 : Nat → Int32) (f49 : Nat → Int32) (H : Heap) (locs : List Loc) (ls : Array Slot), b_Wd D A s.heap H locs [k_Model g a o pasts length printed told state backX backY x33 x34 x35 x36 x37 x38 f39 spare past kept isKept text paper left top wide high original turn f40 f41 f42 f43 f44 f45 f46 f47 f48 f49 tried aside] → lv_has ls 4 [(0, .ref (a o)), (1, .int i1), (2, .int x31), (3, .int x32)] → f_X11_places_L4 wide high i1 k49_18 n x31 x32 x33 x34 x35 x36 x37 x38 f39 f40 f41 f42 f43 f44 f45 f46 f47 f48 f49 = some u → W p l e (g_rm 6 143) s m args below meth c H locs 0 0 Q (F0 m 4 ls []) := by
    intro n
    induction n with
    | zero =>
      intro x31 x32 x33 x34 x35 x36 x37 x38 f39 f40 f41 f42 f43 f44 f45 f46 f47 f48 f49 H locs ls hw hl h
      cases (show none = some u from h)
    | succ n ih4 =>
      intro x31 x32 x33 x34 x35 x36 x37 x38 f39 f40 f41 f42 f43 f44 f45 f46 f47 f48 f49 H locs ls hw hl h
      rw [f_X11_places_L4] at h
      refine lv_iload_n hx hb dX11_places_4 rfl (lv_at hl 3 rfl) ?_
      refine lv_aload_n hx hb dX11_places_5 rfl (lv_at hl 0 rfl) ?_
      refine b_get hx hb hT hK hown fl_X11_7 hw 0 0 rfl rfl (v := .ref (a (o+1))) rfl dX11_places_6 ?_
      refine lv_bipush (v := 13) hx hb dX11_places_9 (by decide) ?_
      obtain ⟨x50, ex50, hix50, h⟩ := g_rd_some h
      refine b_iald hx hb hK hw 0 1 rfl (f := f39) rfl hix50 ex50 dX11_places_11 ?_
      refine lv_icmp_ge (tgt := 49) hx hb dX11_places_12 (by decide) (fun hc12 => ?_) (fun hc12 => ?_)
      · rw [if_pos hc12] at h
        exact hk49_18 x31 x33 x34 x35 x36 x37 x38 f39 f40 f41 f42 f43 f44 f45 f46 f47 f48 f49 _ _ _ hw (lv_sub hl [0, 1, 2] rfl) h
      · rw [if_neg hc12] at h
        refine lv_iload_n hx hb dX11_places_15 rfl (lv_at hl 2 rfl) ?_
        refine lv_if_ne (tgt := 49) hx hb dX11_places_16 (by decide) (fun hc16 => ?_) (fun hc16 => ?_)
        · rw [if_neg hc16] at h
          exact hk49_18 x31 x33 x34 x35 x36 x37 x38 f39 f40 f41 f42 f43 f44 f45 f46 f47 f48 f49 _ _ _ hw (lv_sub hl [0, 1, 2] rfl) h
        · rw [if_pos hc16] at h
          refine lv_aload_n hx hb dX11_places_19 rfl (lv_at hl 0 rfl) ?_
          refine lv_iload_n hx hb dX11_places_20 rfl (lv_at hl 3 rfl) ?_
          refine lv_iload_n hx hb dX11_places_21 rfl (lv_at hl 1 rfl) ?_
          obtain ⟨r51, er51, h⟩ := g_cl_some h
          refine b_callV hx hb hml hown hT hK hA hw mk_X11_241 (c_X11_isOpen l D g a o pasts length printed told state backX backY x33 x34 x35 x36 x37 x38 f39 spare past kept isKept text paper left top wide high original turn f40 f41 f42 f43 f44 f45 f46 f47 f48 f49 tried aside x32 i1 r51 er51) [0] [] rfl (by decide) 0 0 rfl rfl rfl rfl hl.1 [] rfl (Nat.le_of_ble_eq_true rfl) ⟨Nat.le_of_ble_eq_true rfl, Nat.le_of_ble_eq_true rfl⟩ ⟨Nat.zero_le _, Nat.zero_le _⟩ dX11_places_22 (wb' := [k_Model g a o pasts length printed told state backX backY r51.2.1 x34 x35 x36 x37 x38 f39 spare past kept isKept text paper left top wide high original turn r51.2.2.1 r51.2.2.2.1 r51.2.2.2.2.1 r51.2.2.2.2.2 f44 f45 f46 f47 f48 f49 tried aside]) rfl b_e0 1 rfl (by decide) (st2 := [.int r51.1]) rfl (fun H locs hw => ?_)
          obtain ⟨j42_69, ej42_69, h⟩ := g_jn_nm h
          have hj42_69 : ∀ (x52 : Int32) (x53 : Int32) (x54 : Int32) (x55 : Int32) (x56 : Int32) (x57 : Int32) (x58 : Int32) (f59 : Nat → Int32) (f60 : Nat → Int32) (f61 : Nat → Int32) (f62 : Nat → Int32) (f63 : Nat → Int32) (f64 : Nat → Int32) (f65 : Nat → Int32) (f66 : Nat → Int32) (f67 : Nat → Int32) (f68 : Nat → Int32) (f69 : Nat → Int32) (H : Heap) (locs : List Loc) (ls : Array Slot), b_Wd D A s.heap H locs [k_Model g a o pasts length printed told state backX backY x53 x54 x55 x56 x57 x58 f59 spare past kept isKept text paper left top wide high original turn f60 f61 f62 f63 f64 f65 f66 f67 f68 f69 tried aside] → lv_has ls 4 [(0, .ref (a o)), (1, .int i1), (3, .int x32)] → j42_69 x52 x53 x54 x55 x56 x57 x58 f59 f60 f61 f62 f63 f64 f65 f66 f67 f68 f69 = some u → W p l e (g_rm 6 143) s m args below meth c H locs 0 0 Q (F0 m 42 ls [.int x52]) := by
            intro x52 x53 x54 x55 x56 x57 x58 f59 f60 f61 f62 f63 f64 f65 f66 f67 f68 f69 H locs ls hw hl h
            subst ej42_69
            dsimp only at h
            refine lv_istore_n (lv' := [(2, .int x52), (0, .ref (a o)), (1, .int i1), (3, .int x32)]) hx hb dX11_places_42 rfl hl (by decide) rfl (fun ls hl => ?_)
            obtain ⟨x71, ex71, h⟩ := g_bd_nm h
            refine lv_iinc (v := x71) (lv' := [(3, .int x71), (2, .int x52), (0, .ref (a o)), (1, .int i1)]) hx hb dX11_places_43 hl (k := 3) rfl (by rw [ex71]; rfl) (by decide) rfl (fun ls hl => ?_)
            refine lv_goto (tgt := 4) hx hb dX11_places_46 (by decide) ?_
            exact ih4 x52 x71 x53 x54 x55 x56 x57 x58 f59 f60 f61 f62 f63 f64 f65 f66 f67 f68 f69 _ _ _ hw (lv_sub hl [2, 3, 1, 0] rfl) h
          obtain ⟨j41_88, ej41_88, h⟩ := g_jn_nm h
          have hj41_88 : ∀ (x72 : Int32) (x73 : Int32) (x74 : Int32) (x75 : Int32) (x76 : Int32) (x77 : Int32) (f78 : Nat → Int32) (f79 : Nat → Int32) (f80 : Nat → Int32) (f81 : Nat → Int32) (f82 : Nat → Int32) (f83 : Nat → Int32) (f84 : Nat → Int32) (f85 : Nat → Int32) (f86 : Nat → Int32) (f87 : Nat → Int32) (f88 : Nat → Int32) (H : Heap) (locs : List Loc) (ls : Array Slot), b_Wd D A s.heap H locs [k_Model g a o pasts length printed told state backX backY x72 x73 x74 x75 x76 x77 f78 spare past kept isKept text paper left top wide high original turn f79 f80 f81 f82 f83 f84 f85 f86 f87 f88 tried aside] → lv_has ls 4 [(0, .ref (a o)), (1, .int i1), (3, .int x32)] → j41_88 x72 x73 x74 x75 x76 x77 f78 f79 f80 f81 f82 f83 f84 f85 f86 f87 f88 = some u → W p l e (g_rm 6 143) s m args below meth c H locs 0 0 Q (F0 m 41 ls []) := by
            intro x72 x73 x74 x75 x76 x77 f78 f79 f80 f81 f82 f83 f84 f85 f86 f87 f88 H locs ls hw hl h
            subst ej41_88
            dsimp only at h
            refine lv_iconst (v := 0) hx hb dX11_places_41 (by decide) ?_
            exact hj42_69 (0 : Int32) x72 x73 x74 x75 x76 x77 f78 f79 f80 f81 f82 f83 f84 f85 f86 f87 f88 _ _ _ hw (lv_sub hl [0, 1, 2] rfl) h
          refine lv_if_eq (tgt := 41) hx hb dX11_places_25 (by decide) (fun hc25 => ?_) (fun hc25 => ?_)
          · rw [if_pos hc25] at h
            exact hj41_88 r51.2.1 x34 x35 x36 x37 x38 f39 r51.2.2.1 r51.2.2.2.1 r51.2.2.2.2.1 r51.2.2.2.2.2 f44 f45 f46 f47 f48 f49 _ _ _ hw (lv_sub hl [0, 1, 3] rfl) h
          · rw [if_neg hc25] at h
            refine lv_aload_n hx hb dX11_places_28 rfl (lv_at hl 0 rfl) ?_
            refine lv_iload_n hx hb dX11_places_29 rfl (lv_at hl 3 rfl) ?_
            refine lv_iload_n hx hb dX11_places_30 rfl (lv_at hl 1 rfl) ?_
            obtain ⟨r90, er90, h⟩ := g_cl_some h
            refine b_callV hx hb hml hown hT hK hA hw mk_X11_245 (c_X11_placesOn l D g a o pasts length printed told state backX backY r51.2.1 x34 x35 x36 x37 x38 f39 spare past kept isKept text paper left top wide high original turn r51.2.2.1 r51.2.2.2.1 r51.2.2.2.2.1 r51.2.2.2.2.2 f44 f45 f46 f47 f48 f49 tried aside x32 i1 r90 er90) [0] [] rfl (by decide) 0 0 rfl rfl rfl rfl hl.1 [] rfl (Nat.le_of_ble_eq_true rfl) ⟨Nat.le_of_ble_eq_true rfl, Nat.le_of_ble_eq_true rfl⟩ ⟨Nat.zero_le _, Nat.zero_le _⟩ dX11_places_31 (wb' := [k_Model g a o pasts length printed told state backX backY r90.2.1 r90.2.2.1 r90.2.2.2.1 r90.2.2.2.2.1 r90.2.2.2.2.2.1 r90.2.2.2.2.2.2.1 r90.2.2.2.2.2.2.2.1 spare past kept isKept text paper left top wide high original turn r90.2.2.2.2.2.2.2.2.1 r90.2.2.2.2.2.2.2.2.2.1 r90.2.2.2.2.2.2.2.2.2.2.1 r90.2.2.2.2.2.2.2.2.2.2.2.1 r90.2.2.2.2.2.2.2.2.2.2.2.2.1 r90.2.2.2.2.2.2.2.2.2.2.2.2.2.1 r90.2.2.2.2.2.2.2.2.2.2.2.2.2.2.1 r90.2.2.2.2.2.2.2.2.2.2.2.2.2.2.2.1 r90.2.2.2.2.2.2.2.2.2.2.2.2.2.2.2.2.1 r90.2.2.2.2.2.2.2.2.2.2.2.2.2.2.2.2.2 tried aside]) rfl b_e0 1 rfl (by decide) (st2 := [.int r90.1]) rfl (fun H locs hw => ?_)
            refine lv_if_eq (tgt := 41) hx hb dX11_places_34 (by decide) (fun hc34 => ?_) (fun hc34 => ?_)
            · rw [if_pos hc34] at h
              exact hj41_88 r90.2.1 r90.2.2.1 r90.2.2.2.1 r90.2.2.2.2.1 r90.2.2.2.2.2.1 r90.2.2.2.2.2.2.1 r90.2.2.2.2.2.2.2.1 r90.2.2.2.2.2.2.2.2.1 r90.2.2.2.2.2.2.2.2.2.1 r90.2.2.2.2.2.2.2.2.2.2.1 r90.2.2.2.2.2.2.2.2.2.2.2.1 r90.2.2.2.2.2.2.2.2.2.2.2.2.1 r90.2.2.2.2.2.2.2.2.2.2.2.2.2.1 r90.2.2.2.2.2.2.2.2.2.2.2.2.2.2.1 r90.2.2.2.2.2.2.2.2.2.2.2.2.2.2.2.1 r90.2.2.2.2.2.2.2.2.2.2.2.2.2.2.2.2.1 r90.2.2.2.2.2.2.2.2.2.2.2.2.2.2.2.2.2 _ _ _ hw (lv_sub hl [0, 1, 3] rfl) h
            · rw [if_neg hc34] at h
              refine lv_iconst (v := 1) hx hb dX11_places_37 (by decide) ?_
              refine lv_goto (tgt := 42) hx hb dX11_places_38 (by decide) ?_
              exact hj42_69 (1 : Int32) r90.2.1 r90.2.2.1 r90.2.2.2.1 r90.2.2.2.2.1 r90.2.2.2.2.2.1 r90.2.2.2.2.2.2.1 r90.2.2.2.2.2.2.2.1 r90.2.2.2.2.2.2.2.2.1 r90.2.2.2.2.2.2.2.2.2.1 r90.2.2.2.2.2.2.2.2.2.2.1 r90.2.2.2.2.2.2.2.2.2.2.2.1 r90.2.2.2.2.2.2.2.2.2.2.2.2.1 r90.2.2.2.2.2.2.2.2.2.2.2.2.2.1 r90.2.2.2.2.2.2.2.2.2.2.2.2.2.2.1 r90.2.2.2.2.2.2.2.2.2.2.2.2.2.2.2.1 r90.2.2.2.2.2.2.2.2.2.2.2.2.2.2.2.2.1 r90.2.2.2.2.2.2.2.2.2.2.2.2.2.2.2.2.2 _ _ _ hw (lv_sub hl [0, 1, 3] rfl) h
  exact hL4 g_fuel (0 : Int32) (0 : Int32) boxes frees bestFree bestTurned bestFirst bestSecond v boxX boxY boxW boxH freeAtX freeAtY freeW freeH begins ends _ _ _ hw (lv_sub hl [2, 3, 1, 0] rfl) h
