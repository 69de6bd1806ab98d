set_option maxRecDepth 100000 in
set_option maxHeartbeats 4000000 in
theorem c_X11_bestMethod (l : Launch) (D : va_G) (g : Nat → ClassId) (a : Nat → Nat) (o : Nat) (pasts : Int32) (length : Int32) (printed : Int32) (told : Int32) (state : Int64) (backX : Int32) (backY : Int32) (boxes : Int32) (frees : Int32) (bestFree : Int32) (bestTurned : Int32) (bestFirst : Int32) (bestSecond : Int32) (v : (Nat → Int32)) (spare : (Nat → Int32)) (past : (Nat → Int32)) (kept : (Nat → Int32)) (isKept : (Nat → Int32)) (text : (Nat → Int32)) (paper : (Nat → Int32)) (left : (Nat → Int32)) (top : (Nat → Int32)) (wide : (Nat → Int32)) (high : (Nat → Int32)) (original : (Nat → Int32)) (turn : (Nat → Int32)) (boxX : (Nat → Int32)) (boxY : (Nat → Int32)) (boxW : (Nat → Int32)) (boxH : (Nat → Int32)) (freeAtX : (Nat → Int32)) (freeAtY : (Nat → Int32)) (freeW : (Nat → Int32)) (freeH : (Nat → Int32)) (begins : (Nat → Int32)) (ends : (Nat → Int32)) (tried : (Nat → Int32)) (aside : (Nat → Int32)) (u : Int32 × Int32 × Int32 × Int32 × Int32 × Int32 × Int32 × Int32 × Int32 × (Nat → Int32) × (Nat → Int32) × (Nat → Int32) × (Nat → Int32) × (Nat → Int32) × (Nat → Int32) × (Nat → Int32) × (Nat → Int32) × (Nat → Int32) × (Nat → Int32) × (Nat → Int32) × (Nat → Int32) × (Nat → Int32) × (Nat → Int32) × (Nat → Int32) × (Nat → Int32) × (Nat → Int32) × (Nat → Int32) × (Nat → Int32)) (h : f_X11_bestMethod backX backY boxes frees bestFree bestTurned bestFirst bestSecond v spare left top wide high original turn boxX boxY boxW boxH freeAtX freeAtY freeW freeH begins ends tried = some u) : b_Ct l yX11_bestMethod cX11_bestMethod 10 (some .int) 8 190 D g [.ref (a o)] [k_Model g a o pasts length printed told state backX backY boxes frees bestFree bestTurned bestFirst bestSecond v spare past kept isKept text paper left top wide high original turn boxX boxY boxW boxH freeAtX freeAtY freeW freeH begins ends tried aside] [k_Model g a o pasts length printed told state u.2.1 u.2.2.1 u.2.2.2.1 u.2.2.2.2.1 u.2.2.2.2.2.1 u.2.2.2.2.2.2.1 u.2.2.2.2.2.2.2.1 u.2.2.2.2.2.2.2.2.1 u.2.2.2.2.2.2.2.2.2.1 u.2.2.2.2.2.2.2.2.2.2.1 past kept isKept text paper u.2.2.2.2.2.2.2.2.2.2.2.1 u.2.2.2.2.2.2.2.2.2.2.2.2.1 u.2.2.2.2.2.2.2.2.2.2.2.2.2.1 u.2.2.2.2.2.2.2.2.2.2.2.2.2.2.1 u.2.2.2.2.2.2.2.2.2.2.2.2.2.2.2.1 u.2.2.2.2.2.2.2.2.2.2.2.2.2.2.2.2.1 u.2.2.2.2.2.2.2.2.2.2.2.2.2.2.2.2.2.1 u.2.2.2.2.2.2.2.2.2.2.2.2.2.2.2.2.2.2.1 u.2.2.2.2.2.2.2.2.2.2.2.2.2.2.2.2.2.2.2.1 u.2.2.2.2.2.2.2.2.2.2.2.2.2.2.2.2.2.2.2.2.1 u.2.2.2.2.2.2.2.2.2.2.2.2.2.2.2.2.2.2.2.2.2.1 u.2.2.2.2.2.2.2.2.2.2.2.2.2.2.2.2.2.2.2.2.2.2.1 u.2.2.2.2.2.2.2.2.2.2.2.2.2.2.2.2.2.2.2.2.2.2.2.1 u.2.2.2.2.2.2.2.2.2.2.2.2.2.2.2.2.2.2.2.2.2.2.2.2.1 u.2.2.2.2.2.2.2.2.2.2.2.2.2.2.2.2.2.2.2.2.2.2.2.2.2.1 u.2.2.2.2.2.2.2.2.2.2.2.2.2.2.2.2.2.2.2.2.2.2.2.2.2.2.1 u.2.2.2.2.2.2.2.2.2.2.2.2.2.2.2.2.2.2.2.2.2.2.2.2.2.2.2 aside] (some (.int u.1)) := by
  refine b_start RX11 (by decide) rfl (Nat.le_of_ble_eq_true rfl) rfl ?_
  intro p e s m args below meth c A ls Q hQ hx hb hr hlk hml hown hT hK hA hw hl
  have hl : lv_has ls 10 [(0, .ref (a o))] := hl
  unfold f_X11_bestMethod at h
  refine lv_aload_n hx hb dX11_bestMethod_0 rfl (lv_at hl 0 rfl) ?_
  obtain ⟨r1, er1, h⟩ := g_cl_some h
  refine b_callV hx hb hml hown hT hK hA hw mk_X11_176 (c_X11_knows l D g a o pasts length printed told state backX backY boxes frees bestFree bestTurned bestFirst bestSecond v spare past kept isKept text paper left top wide high original turn boxX boxY boxW boxH freeAtX freeAtY freeW freeH begins ends tried aside r1 er1) [0] [] rfl (by decide) 0 0 rfl rfl rfl rfl hl.1 [] rfl (Nat.le_of_ble_eq_true rfl) ⟨Nat.le_of_ble_eq_true rfl, Nat.le_of_ble_eq_true rfl⟩ ⟨Nat.zero_le _, Nat.zero_le _⟩ dX11_bestMethod_1 (wb' := [k_Model g a o pasts length printed told state r1.1 r1.2.1 boxes frees bestFree bestTurned bestFirst bestSecond v spare past kept isKept text paper r1.2.2.1 r1.2.2.2.1 r1.2.2.2.2.1 r1.2.2.2.2.2.1 r1.2.2.2.2.2.2.1 r1.2.2.2.2.2.2.2 boxX boxY boxW boxH freeAtX freeAtY freeW freeH begins ends tried aside]) rfl b_e0 1 rfl (by decide) (st2 := []) rfl (fun H locs hw => ?_)
  refine lv_aload_n hx hb dX11_bestMethod_4 rfl (lv_at hl 0 rfl) ?_
  obtain ⟨r2, er2, h⟩ := g_cl_some h
  refine b_callV hx hb hml hown hT hK hA hw mk_X11_260 (c_X11_keeps l D g a o pasts length printed told state r1.1 r1.2.1 boxes frees bestFree bestTurned bestFirst bestSecond v spare past kept isKept text paper r1.2.2.1 r1.2.2.2.1 r1.2.2.2.2.1 r1.2.2.2.2.2.1 r1.2.2.2.2.2.2.1 r1.2.2.2.2.2.2.2 boxX boxY boxW boxH freeAtX freeAtY freeW freeH begins ends tried aside r2 er2) [0] [] rfl (by decide) 0 0 rfl rfl rfl rfl hl.1 [] rfl (Nat.le_of_ble_eq_true rfl) ⟨Nat.le_of_ble_eq_true rfl, Nat.le_of_ble_eq_true rfl⟩ ⟨Nat.zero_le _, Nat.zero_le _⟩ dX11_bestMethod_5 (wb' := [k_Model g a o pasts length printed told state r1.1 r1.2.1 boxes frees bestFree bestTurned bestFirst bestSecond v r2 past kept isKept text paper r1.2.2.1 r1.2.2.2.1 r1.2.2.2.2.1 r1.2.2.2.2.2.1 r1.2.2.2.2.2.2.1 r1.2.2.2.2.2.2.2 boxX boxY boxW boxH freeAtX freeAtY freeW freeH begins ends tried aside]) rfl b_e0 1 rfl (by decide) (st2 := []) rfl (fun H locs hw => ?_)
  refine lv_iconst (v := -1) hx hb dX11_bestMethod_8 (by decide) ?_
  refine lv_istore_n (lv' := [(1, .int (-1 : Int32)), (0, .ref (a o))]) hx hb dX11_bestMethod_9 rfl hl (by decide) rfl (fun ls hl => ?_)
  refine lv_iconst (v := 0) hx hb dX11_bestMethod_10 (by decide) ?_
  refine lv_istore_n (lv' := [(2, .int (0 : Int32)), (1, .int (-1 : Int32)), (0, .ref (a o))]) hx hb dX11_bestMethod_11 rfl hl (by decide) rfl (fun ls hl => ?_)
  refine lv_iconst (v := 0) hx hb dX11_bestMethod_12 (by decide) ?_
  refine lv_istore_n (lv' := [(3, .int (0 : Int32)), (2, .int (0 : Int32)), (1, .int (-1 : Int32)), (0, .ref (a o))]) hx hb dX11_bestMethod_13 rfl hl (by decide) rfl (fun ls hl => ?_)
  refine lv_iconst (v := 0) hx hb dX11_bestMethod_14 (by decide) ?_
  refine lv_istore (lv' := [(4, .int (0 : Int32)), (3, .int (0 : Int32)), (2, .int (0 : Int32)), (1, .int (-1 : Int32)), (0, .ref (a o))]) hx hb dX11_bestMethod_15 hl (by decide) rfl (fun ls hl => ?_)
  refine lv_iconst (v := 0) hx hb dX11_bestMethod_17 (by decide) ?_
  refine lv_istore (lv' := [(5, .int (0 : Int32)), (4, .int (0 : Int32)), (3, .int (0 : Int32)), (2, .int (0 : Int32)), (1, .int (-1 : Int32)), (0, .ref (a o))]) hx hb dX11_bestMethod_18 hl (by decide) rfl (fun ls hl => ?_)
  obtain ⟨k158_21, ek158_21, h⟩ := g_jn_nm h
  have hk158_21 : ∀ (x3 : Int32) (x4 : Int32) (x5 : Int32) (x6 : Int32) (x7 : Int32) (x8 : Int32) (x9 : Int32) (f10 : Nat → Int32) (f11 : Nat → Int32) (f12 : Nat → Int32) (f13 : Nat → Int32) (f14 : Nat → Int32) (f15 : Nat → Int32) (f16 : Nat → Int32) (f17 : Nat → Int32) (f18 : Nat → Int32) (f19 : Nat → Int32) (f20 : Nat → Int32) (f21 : Nat → Int32) (H : Heap) (locs : List Loc) (ls : Array Slot), b_Wd D A s.heap H locs [k_Model g a o pasts length printed told state r1.1 r1.2.1 x4 x5 x6 x7 x8 x9 f10 r2 past kept isKept text paper r1.2.2.1 r1.2.2.2.1 r1.2.2.2.2.1 r1.2.2.2.2.2.1 r1.2.2.2.2.2.2.1 r1.2.2.2.2.2.2.2 f11 f12 f13 f14 f15 f16 f17 f18 f19 f20 f21 aside] → lv_has ls 10 [(0, .ref (a o)), (1, .int x3)] → k158_21 x3 x4 x5 x6 x7 x8 x9 f10 f11 f12 f13 f14 f15 f16 f17 f18 f19 f20 f21 = some u → W p l e (g_rm 8 190) s m args below meth c H locs 0 0 Q (F0 m 158 ls []) := by
    intro x3 x4 x5 x6 x7 x8 x9 f10 f11 f12 f13 f14 f15 f16 f17 f18 f19 f20 f21 H locs ls hw hl h
    subst ek158_21
    dsimp only at h
    refine lv_aload_n hx hb dX11_bestMethod_158 rfl (lv_at hl 0 rfl) ?_
    obtain ⟨r23, er23, h⟩ := g_cl_some h
    refine b_callV hx hb hml hown hT hK hA hw mk_X11_267 (c_X11_brings l D g a o pasts length printed told state r1.1 r1.2.1 x4 x5 x6 x7 x8 x9 f10 r2 past kept isKept text paper r1.2.2.1 r1.2.2.2.1 r1.2.2.2.2.1 r1.2.2.2.2.2.1 r1.2.2.2.2.2.2.1 r1.2.2.2.2.2.2.2 f11 f12 f13 f14 f15 f16 f17 f18 f19 f20 f21 aside r23 er23) [0] [] rfl (by decide) 0 0 rfl rfl rfl rfl hl.1 [] rfl (Nat.le_of_ble_eq_true rfl) ⟨Nat.le_of_ble_eq_true rfl, Nat.le_of_ble_eq_true rfl⟩ ⟨Nat.zero_le _, Nat.zero_le _⟩ dX11_bestMethod_159 (wb' := [k_Model g a o pasts length printed told state r1.1 r1.2.1 x4 x5 x6 x7 x8 x9 r23 r2 past kept isKept text paper r1.2.2.1 r1.2.2.2.1 r1.2.2.2.2.1 r1.2.2.2.2.2.1 r1.2.2.2.2.2.2.1 r1.2.2.2.2.2.2.2 f11 f12 f13 f14 f15 f16 f17 f18 f19 f20 f21 aside]) rfl b_e0 1 rfl (by decide) (st2 := []) rfl (fun H locs hw => ?_)
    refine lv_bipush (v := 10) hx hb dX11_bestMethod_162 (by decide) ?_
    refine lv_iload_n hx hb dX11_bestMethod_164 rfl (lv_at hl 1 rfl) ?_
    refine lv_iconst (v := 4) hx hb dX11_bestMethod_165 (by decide) ?_
    refine lv_idiv hx hb dX11_bestMethod_166 (by decide) ?_
    refine lv_imul hx hb dX11_bestMethod_167 ?_
    refine lv_iload_n hx hb dX11_bestMethod_168 rfl (lv_at hl 1 rfl) ?_
    refine lv_iconst (v := 4) hx hb dX11_bestMethod_169 (by decide) ?_
    refine g_irem hx hb dX11_bestMethod_170 (by decide) ?_
    refine lv_iadd hx hb dX11_bestMethod_171 ?_
    obtain rfl := Option.some.inj h
    exact b_iret hQ hx hb hr hlk hw rfl dX11_bestMethod_172
  have hL20 : ∀ (n : Nat) (x24 : Int32) (x25 : Int32) (x26 : Int32) (x27 : Int32) (x28 : Int32) (x29 : Int32) (x30 : Int32) (x31 : Int32) (x32 : Int32) (x33 : Int32) (x34 : Int32) (f35 : Nat → Int32) (f36 : Nat → Int32) (f37 : Nat → Int32) (f38 : Nat → Int32) (f39 : Nat → Int32) (f40 : Nat → Int32) (f41 : Nat → Int32) (f42 : Nat → Int32) (f43 : Nat → Int32) (f44 : Nat → Int32) (f45 : Nat → Int32) (f46 : Nat → Int32) (H : Heap) (locs : List Loc) (ls : Array Slot), b_Wd D A s.heap H locs [k_Model g a o pasts length printed told state r1.1 r1.2.1 x29 x30 x31 x32 x33 x34 f35 r2 past kept isKept text paper r1.2.2.1 r1.2.2.2.1 r1.2.2.2.2.1 r1.2.2.2.2.2.1 r1.2.2.2.2.2.2.1 r1.2.2.2.2.2.2.2 f36 f37 f38 f39 f40 f41 f42 f43 f44 f45 f46 aside] → lv_has ls 10 [(0, .ref (a o)), (1, .int x24), (2, .int x25), (3, .int x26), (4, .int x27), (5, .int x28)] → f_X11_bestMethod_L20 r1 k158_21 n x24 x25 x26 x27 x28 x29 x30 x31 x32 x33 x34 f35 f36 f37 f38 f39 f40 f41 f42 f43 f44 f45 f46 = some u → W p l e (g_rm 8 190) s m args below meth c H locs 0 0 Q (F0 m 20 ls []) := by
    intro n
    induction n with
    | zero =>
      intro x24 x25 x26 x27 x28 x29 x30 x31 x32 x33 x34 f35 f36 f37 f38 f39 f40 f41 f42 f43 f44 f45 f46 H locs ls hw hl h
      cases (show none = some u from h)
    | succ n ih20 =>
      intro x24 x25 x26 x27 x28 x29 x30 x31 x32 x33 x34 f35 f36 f37 f38 f39 f40 f41 f42 f43 f44 f45 f46 H locs ls hw hl h
      rw [f_X11_bestMethod_L20] at h
      refine lv_iload hx hb dX11_bestMethod_20 (lv_at hl 5 rfl) ?_
      refine lv_bipush (v := 16) hx hb dX11_bestMethod_22 (by decide) ?_
      refine lv_icmp_ge (tgt := 158) hx hb dX11_bestMethod_24 (by decide) (fun hc24 => ?_) (fun hc24 => ?_)
      · rw [if_pos hc24] at h
        exact hk158_21 x24 x29 x30 x31 x32 x33 x34 f35 f36 f37 f38 f39 f40 f41 f42 f43 f44 f45 f46 _ _ _ hw (lv_sub hl [0, 1] rfl) h
      · rw [if_neg hc24] at h
        refine lv_aload_n hx hb dX11_bestMethod_27 rfl (lv_at hl 0 rfl) ?_
        refine b_get hx hb hT hK hown fl_X11_7 hw 0 0 rfl rfl (v := .ref (a (o+1))) rfl dX11_bestMethod_28 ?_
        refine lv_bipush (v := 11) hx hb dX11_bestMethod_31 (by decide) ?_
        refine lv_iload hx hb dX11_bestMethod_33 (lv_at hl 5 rfl) ?_
        refine lv_iconst (v := 4) hx hb dX11_bestMethod_35 (by decide) ?_
        refine lv_idiv hx hb dX11_bestMethod_36 (by decide) ?_
        obtain ⟨x47, ex47, h⟩ := g_bd_nm h
        refine g_topi ex47 ?_
        obtain ⟨f48, ef48, hif48, h⟩ := g_wr_some h
        refine b_iast hx hb hK hw 0 1 rfl (f := f35) rfl hif48 ef48 rfl (wb' := [k_Model g a o pasts length printed told state r1.1 r1.2.1 x29 x30 x31 x32 x33 x34 f48 r2 past kept isKept text paper r1.2.2.1 r1.2.2.2.1 r1.2.2.2.2.1 r1.2.2.2.2.2.1 r1.2.2.2.2.2.2.1 r1.2.2.2.2.2.2.2 f36 f37 f38 f39 f40 f41 f42 f43 f44 f45 f46 aside]) rfl dX11_bestMethod_37 (fun H locs hw => ?_)
        refine lv_aload_n hx hb dX11_bestMethod_38 rfl (lv_at hl 0 rfl) ?_
        refine b_get hx hb hT hK hown fl_X11_7 hw 0 0 rfl rfl (v := .ref (a (o+1))) rfl dX11_bestMethod_39 ?_
        refine lv_bipush (v := 12) hx hb dX11_bestMethod_42 (by decide) ?_
        refine lv_iload hx hb dX11_bestMethod_44 (lv_at hl 5 rfl) ?_
        refine lv_iconst (v := 4) hx hb dX11_bestMethod_46 (by decide) ?_
        refine g_irem hx hb dX11_bestMethod_47 (by decide) ?_
        obtain ⟨x49, ex49, h⟩ := g_bd_nm h
        refine g_topi ex49 ?_
        obtain ⟨f50, ef50, hif50, h⟩ := g_wr_some h
        refine b_iast hx hb hK hw 0 1 rfl (f := f48) rfl hif50 ef50 rfl (wb' := [k_Model g a o pasts length printed told state r1.1 r1.2.1 x29 x30 x31 x32 x33 x34 f50 r2 past kept isKept text paper r1.2.2.1 r1.2.2.2.1 r1.2.2.2.2.1 r1.2.2.2.2.2.1 r1.2.2.2.2.2.2.1 r1.2.2.2.2.2.2.2 f36 f37 f38 f39 f40 f41 f42 f43 f44 f45 f46 aside]) rfl dX11_bestMethod_48 (fun H locs hw => ?_)
        refine lv_aload_n hx hb dX11_bestMethod_49 rfl (lv_at hl 0 rfl) ?_
        obtain ⟨r51, er51, h⟩ := g_cl_some h
        refine b_callV hx hb hml hown hT hK hA hw mk_X11_257 (c_X11_packs l D g a o pasts length printed told state r1.1 r1.2.1 x29 x30 x31 x32 x33 x34 f50 r2 past kept isKept text paper r1.2.2.1 r1.2.2.2.1 r1.2.2.2.2.1 r1.2.2.2.2.2.1 r1.2.2.2.2.2.2.1 r1.2.2.2.2.2.2.2 f36 f37 f38 f39 f40 f41 f42 f43 f44 f45 f46 aside r51 er51) [0] [] rfl (by decide) 0 0 rfl rfl rfl rfl hl.1 [] rfl (Nat.le_of_ble_eq_true rfl) ⟨Nat.le_of_ble_eq_true rfl, Nat.le_of_ble_eq_true rfl⟩ ⟨Nat.zero_le _, Nat.zero_le _⟩ dX11_bestMethod_50 (wb' := [k_Model g a o pasts length printed told state r1.1 r1.2.1 r51.2.1 r51.2.2.1 r51.2.2.2.1 r51.2.2.2.2.1 r51.2.2.2.2.2.1 r51.2.2.2.2.2.2.1 r51.2.2.2.2.2.2.2.1 r2 past kept isKept text paper r1.2.2.1 r1.2.2.2.1 r1.2.2.2.2.1 r1.2.2.2.2.2.1 r1.2.2.2.2.2.2.1 r1.2.2.2.2.2.2.2 r51.2.2.2.2.2.2.2.2.1 r51.2.2.2.2.2.2.2.2.2.1 r51.2.2.2.2.2.2.2.2.2.2.1 r51.2.2.2.2.2.2.2.2.2.2.2.1 r51.2.2.2.2.2.2.2.2.2.2.2.2.1 r51.2.2.2.2.2.2.2.2.2.2.2.2.2.1 r51.2.2.2.2.2.2.2.2.2.2.2.2.2.2.1 r51.2.2.2.2.2.2.2.2.2.2.2.2.2.2.2.1 r51.2.2.2.2.2.2.2.2.2.2.2.2.2.2.2.2.1 r51.2.2.2.2.2.2.2.2.2.2.2.2.2.2.2.2.2.1 r51.2.2.2.2.2.2.2.2.2.2.2.2.2.2.2.2.2.2 aside]) rfl b_e0 1 rfl (by decide) (st2 := [.int r51.1]) rfl (fun H locs hw => ?_)
        refine lv_istore (lv' := [(6, .int r51.1), (0, .ref (a o)), (1, .int x24), (2, .int x25), (3, .int x26), (4, .int x27), (5, .int x28)]) hx hb dX11_bestMethod_53 hl (by decide) rfl (fun ls hl => ?_)
        refine lv_aload_n hx hb dX11_bestMethod_55 rfl (lv_at hl 1 rfl) ?_
        obtain ⟨r52, er52, h⟩ := g_cl_some h
        refine b_callV hx hb hml hown hT hK hA hw mk_X11_304 (c_X11_usedByAll l D g a o pasts length printed told state r1.1 r1.2.1 r51.2.1 r51.2.2.1 r51.2.2.2.1 r51.2.2.2.2.1 r51.2.2.2.2.2.1 r51.2.2.2.2.2.2.1 r51.2.2.2.2.2.2.2.1 r2 past kept isKept text paper r1.2.2.1 r1.2.2.2.1 r1.2.2.2.2.1 r1.2.2.2.2.2.1 r1.2.2.2.2.2.2.1 r1.2.2.2.2.2.2.2 r51.2.2.2.2.2.2.2.2.1 r51.2.2.2.2.2.2.2.2.2.1 r51.2.2.2.2.2.2.2.2.2.2.1 r51.2.2.2.2.2.2.2.2.2.2.2.1 r51.2.2.2.2.2.2.2.2.2.2.2.2.1 r51.2.2.2.2.2.2.2.2.2.2.2.2.2.1 r51.2.2.2.2.2.2.2.2.2.2.2.2.2.2.1 r51.2.2.2.2.2.2.2.2.2.2.2.2.2.2.2.1 r51.2.2.2.2.2.2.2.2.2.2.2.2.2.2.2.2.1 r51.2.2.2.2.2.2.2.2.2.2.2.2.2.2.2.2.2.1 r51.2.2.2.2.2.2.2.2.2.2.2.2.2.2.2.2.2.2 aside r52 er52) [0] [] rfl (by decide) 0 0 rfl rfl rfl rfl hl.1 [] rfl (Nat.le_of_ble_eq_true rfl) ⟨Nat.le_of_ble_eq_true rfl, Nat.le_of_ble_eq_true rfl⟩ ⟨Nat.zero_le _, Nat.zero_le _⟩ dX11_bestMethod_56 (wb' := [k_Model g a o pasts length printed told state r1.1 r1.2.1 r51.2.1 r51.2.2.1 r51.2.2.2.1 r51.2.2.2.2.1 r51.2.2.2.2.2.1 r51.2.2.2.2.2.2.1 r51.2.2.2.2.2.2.2.1 r2 past kept isKept text paper r1.2.2.1 r1.2.2.2.1 r1.2.2.2.2.1 r1.2.2.2.2.2.1 r1.2.2.2.2.2.2.1 r1.2.2.2.2.2.2.2 r51.2.2.2.2.2.2.2.2.1 r51.2.2.2.2.2.2.2.2.2.1 r51.2.2.2.2.2.2.2.2.2.2.1 r51.2.2.2.2.2.2.2.2.2.2.2.1 r51.2.2.2.2.2.2.2.2.2.2.2.2.1 r51.2.2.2.2.2.2.2.2.2.2.2.2.2.1 r51.2.2.2.2.2.2.2.2.2.2.2.2.2.2.1 r51.2.2.2.2.2.2.2.2.2.2.2.2.2.2.2.1 r51.2.2.2.2.2.2.2.2.2.2.2.2.2.2.2.2.1 r51.2.2.2.2.2.2.2.2.2.2.2.2.2.2.2.2.2.1 r51.2.2.2.2.2.2.2.2.2.2.2.2.2.2.2.2.2.2 aside]) rfl b_e0 1 rfl (by decide) (st2 := [.int r52]) rfl (fun H locs hw => ?_)
        refine lv_istore (lv' := [(7, .int r52), (6, .int r51.1), (0, .ref (a o)), (1, .int x24), (2, .int x25), (3, .int x26), (4, .int x27), (5, .int x28)]) hx hb dX11_bestMethod_59 hl (by decide) rfl (fun ls hl => ?_)
        refine lv_iload_n hx hb dX11_bestMethod_61 rfl (lv_at hl 3 rfl) ?_
        obtain ⟨j76_53, ej76_53, h⟩ := g_jn_nm h
        have hj76_53 : ∀ (x53 : Int32) (H : Heap) (locs : List Loc) (ls : Array Slot), b_Wd D A s.heap H locs [k_Model g a o pasts length printed told state r1.1 r1.2.1 r51.2.1 r51.2.2.1 r51.2.2.2.1 r51.2.2.2.2.1 r51.2.2.2.2.2.1 r51.2.2.2.2.2.2.1 r51.2.2.2.2.2.2.2.1 r2 past kept isKept text paper r1.2.2.1 r1.2.2.2.1 r1.2.2.2.2.1 r1.2.2.2.2.2.1 r1.2.2.2.2.2.2.1 r1.2.2.2.2.2.2.2 r51.2.2.2.2.2.2.2.2.1 r51.2.2.2.2.2.2.2.2.2.1 r51.2.2.2.2.2.2.2.2.2.2.1 r51.2.2.2.2.2.2.2.2.2.2.2.1 r51.2.2.2.2.2.2.2.2.2.2.2.2.1 r51.2.2.2.2.2.2.2.2.2.2.2.2.2.1 r51.2.2.2.2.2.2.2.2.2.2.2.2.2.2.1 r51.2.2.2.2.2.2.2.2.2.2.2.2.2.2.2.1 r51.2.2.2.2.2.2.2.2.2.2.2.2.2.2.2.2.1 r51.2.2.2.2.2.2.2.2.2.2.2.2.2.2.2.2.2.1 r51.2.2.2.2.2.2.2.2.2.2.2.2.2.2.2.2.2.2 aside] → lv_has ls 10 [(0, .ref (a o)), (1, .int x24), (2, .int x25), (3, .int x26), (4, .int x27), (5, .int x28), (6, .int r51.1), (7, .int r52)] → j76_53 x53 = some u → W p l e (g_rm 8 190) s m args below meth c H locs 0 0 Q (F0 m 76 ls [.int x53]) := by
          intro x53 H locs ls hw hl h
          subst ej76_53
          dsimp only at h
          refine lv_istore (lv' := [(8, .int x53), (0, .ref (a o)), (1, .int x24), (2, .int x25), (3, .int x26), (4, .int x27), (5, .int x28), (6, .int r51.1), (7, .int r52)]) hx hb dX11_bestMethod_76 hl (by decide) rfl (fun ls hl => ?_)
          refine lv_iload_n hx hb dX11_bestMethod_78 rfl (lv_at hl 2 rfl) ?_
          obtain ⟨j127_55, ej127_55, h⟩ := g_jn_nm h
          have hj127_55 : ∀ (x55 : Int32) (H : Heap) (locs : List Loc) (ls : Array Slot), b_Wd D A s.heap H locs [k_Model g a o pasts length printed told state r1.1 r1.2.1 r51.2.1 r51.2.2.1 r51.2.2.2.1 r51.2.2.2.2.1 r51.2.2.2.2.2.1 r51.2.2.2.2.2.2.1 r51.2.2.2.2.2.2.2.1 r2 past kept isKept text paper r1.2.2.1 r1.2.2.2.1 r1.2.2.2.2.1 r1.2.2.2.2.2.1 r1.2.2.2.2.2.2.1 r1.2.2.2.2.2.2.2 r51.2.2.2.2.2.2.2.2.1 r51.2.2.2.2.2.2.2.2.2.1 r51.2.2.2.2.2.2.2.2.2.2.1 r51.2.2.2.2.2.2.2.2.2.2.2.1 r51.2.2.2.2.2.2.2.2.2.2.2.2.1 r51.2.2.2.2.2.2.2.2.2.2.2.2.2.1 r51.2.2.2.2.2.2.2.2.2.2.2.2.2.2.1 r51.2.2.2.2.2.2.2.2.2.2.2.2.2.2.2.1 r51.2.2.2.2.2.2.2.2.2.2.2.2.2.2.2.2.1 r51.2.2.2.2.2.2.2.2.2.2.2.2.2.2.2.2.2.1 r51.2.2.2.2.2.2.2.2.2.2.2.2.2.2.2.2.2.2 aside] → lv_has ls 10 [(0, .ref (a o)), (1, .int x24), (2, .int x25), (3, .int x26), (4, .int x27), (5, .int x28), (6, .int r51.1), (7, .int r52)] → j127_55 x55 = some u → W p l e (g_rm 8 190) s m args below meth c H locs 0 0 Q (F0 m 127 ls [.int x55]) := by
            intro x55 H locs ls hw hl h
            subst ej127_55
            dsimp only at h
            refine lv_istore (lv' := [(9, .int x55), (0, .ref (a o)), (1, .int x24), (2, .int x25), (3, .int x26), (4, .int x27), (5, .int x28), (6, .int r51.1), (7, .int r52)]) hx hb dX11_bestMethod_127 hl (by decide) rfl (fun ls hl => ?_)
            refine lv_iload hx hb dX11_bestMethod_129 (lv_at hl 0 rfl) ?_
            obtain ⟨j152_60, ej152_60, h⟩ := g_jn_nm h
            have hj152_60 : ∀ (x57 : Int32) (x58 : Int32) (x59 : Int32) (x60 : Int32) (H : Heap) (locs : List Loc) (ls : Array Slot), b_Wd D A s.heap H locs [k_Model g a o pasts length printed told state r1.1 r1.2.1 r51.2.1 r51.2.2.1 r51.2.2.2.1 r51.2.2.2.2.1 r51.2.2.2.2.2.1 r51.2.2.2.2.2.2.1 r51.2.2.2.2.2.2.2.1 r2 past kept isKept text paper r1.2.2.1 r1.2.2.2.1 r1.2.2.2.2.1 r1.2.2.2.2.2.1 r1.2.2.2.2.2.2.1 r1.2.2.2.2.2.2.2 r51.2.2.2.2.2.2.2.2.1 r51.2.2.2.2.2.2.2.2.2.1 r51.2.2.2.2.2.2.2.2.2.2.1 r51.2.2.2.2.2.2.2.2.2.2.2.1 r51.2.2.2.2.2.2.2.2.2.2.2.2.1 r51.2.2.2.2.2.2.2.2.2.2.2.2.2.1 r51.2.2.2.2.2.2.2.2.2.2.2.2.2.2.1 r51.2.2.2.2.2.2.2.2.2.2.2.2.2.2.2.1 r51.2.2.2.2.2.2.2.2.2.2.2.2.2.2.2.2.1 r51.2.2.2.2.2.2.2.2.2.2.2.2.2.2.2.2.2.1 r51.2.2.2.2.2.2.2.2.2.2.2.2.2.2.2.2.2.2 aside] → lv_has ls 10 [(0, .ref (a o)), (1, .int x57), (2, .int x58), (3, .int x59), (4, .int x60), (5, .int x28)] → j152_60 x57 x58 x59 x60 = some u → W p l e (g_rm 8 190) s m args below meth c H locs 0 0 Q (F0 m 152 ls []) := by
              intro x57 x58 x59 x60 H locs ls hw hl h
              subst ej152_60
              dsimp only at h
              obtain ⟨x62, ex62, h⟩ := g_bd_nm h
              refine lv_iinc (v := x62) (lv' := [(5, .int x62), (0, .ref (a o)), (1, .int x57), (2, .int x58), (3, .int x59), (4, .int x60)]) hx hb dX11_bestMethod_152 hl (k := 5) rfl (by rw [ex62]; rfl) (by decide) rfl (fun ls hl => ?_)
              refine lv_goto (tgt := 20) hx hb dX11_bestMethod_155 (by decide) ?_
              exact ih20 x57 x58 x59 x60 x62 r51.2.1 r51.2.2.1 r51.2.2.2.1 r51.2.2.2.2.1 r51.2.2.2.2.2.1 r51.2.2.2.2.2.2.1 r51.2.2.2.2.2.2.2.1 r51.2.2.2.2.2.2.2.2.1 r51.2.2.2.2.2.2.2.2.2.1 r51.2.2.2.2.2.2.2.2.2.2.1 r51.2.2.2.2.2.2.2.2.2.2.2.1 r51.2.2.2.2.2.2.2.2.2.2.2.2.1 r51.2.2.2.2.2.2.2.2.2.2.2.2.2.1 r51.2.2.2.2.2.2.2.2.2.2.2.2.2.2.1 r51.2.2.2.2.2.2.2.2.2.2.2.2.2.2.2.1 r51.2.2.2.2.2.2.2.2.2.2.2.2.2.2.2.2.1 r51.2.2.2.2.2.2.2.2.2.2.2.2.2.2.2.2.2.1 r51.2.2.2.2.2.2.2.2.2.2.2.2.2.2.2.2.2.2 _ _ _ hw (lv_sub hl [1, 2, 3, 4, 5, 0] rfl) h
            refine lv_if_eq (tgt := 152) hx hb dX11_bestMethod_131 (by decide) (fun hc131 => ?_) (fun hc131 => ?_)
            · rw [if_pos hc131] at h
              exact hj152_60 x24 x25 x26 x27 _ _ _ hw (lv_sub hl [1, 2, 3, 4, 5, 6] rfl) h
            · rw [if_neg hc131] at h
              refine lv_iload hx hb dX11_bestMethod_134 (lv_at hl 6 rfl) ?_
              refine lv_istore_n (lv' := [(1, .int x28), (9, .int x55), (0, .ref (a o)), (2, .int x25), (3, .int x26), (4, .int x27), (5, .int x28), (6, .int r51.1), (7, .int r52)]) hx hb dX11_bestMethod_136 rfl hl (by decide) rfl (fun ls hl => ?_)
              refine lv_iload hx hb dX11_bestMethod_137 (lv_at hl 7 rfl) ?_
              refine lv_istore_n (lv' := [(2, .int r51.1), (1, .int x28), (9, .int x55), (0, .ref (a o)), (3, .int x26), (4, .int x27), (5, .int x28), (6, .int r51.1), (7, .int r52)]) hx hb dX11_bestMethod_139 rfl hl (by decide) rfl (fun ls hl => ?_)
              refine lv_aload_n hx hb dX11_bestMethod_140 rfl (lv_at hl 3 rfl) ?_
              refine b_get hx hb hT hK hown fl_X11_7 hw 0 0 rfl rfl (v := .ref (a (o+1))) rfl dX11_bestMethod_141 ?_
              refine lv_bipush (v := 13) hx hb dX11_bestMethod_144 (by decide) ?_
              obtain ⟨x63, ex63, hix63, h⟩ := g_rd_some h
              refine b_iald hx hb hK hw 0 1 rfl (f := r51.2.2.2.2.2.2.2.1) rfl hix63 ex63 dX11_bestMethod_146 ?_
              refine lv_istore_n (lv' := [(3, .int x63), (2, .int r51.1), (1, .int x28), (9, .int x55), (0, .ref (a o)), (4, .int x27), (5, .int x28), (6, .int r51.1), (7, .int r52)]) hx hb dX11_bestMethod_147 rfl hl (by decide) rfl (fun ls hl => ?_)
              refine lv_iload hx hb dX11_bestMethod_148 (lv_at hl 8 rfl) ?_
              refine lv_istore (lv' := [(4, .int r52), (3, .int x63), (2, .int r51.1), (1, .int x28), (9, .int x55), (0, .ref (a o)), (5, .int x28), (6, .int r51.1), (7, .int r52)]) hx hb dX11_bestMethod_150 hl (by decide) rfl (fun ls hl => ?_)
              exact hj152_60 x28 r51.1 x63 r52 _ _ _ hw (lv_sub hl [5, 3, 2, 1, 0, 6] rfl) h
          obtain ⟨j122_63, ej122_63, h⟩ := g_jn_nm h
          have hj122_63 : ∀ (H : Heap) (locs : List Loc) (ls : Array Slot), b_Wd D A s.heap H locs [k_Model g a o pasts length printed told state r1.1 r1.2.1 r51.2.1 r51.2.2.1 r51.2.2.2.1 r51.2.2.2.2.1 r51.2.2.2.2.2.1 r51.2.2.2.2.2.2.1 r51.2.2.2.2.2.2.2.1 r2 past kept isKept text paper r1.2.2.1 r1.2.2.2.1 r1.2.2.2.2.1 r1.2.2.2.2.2.1 r1.2.2.2.2.2.2.1 r1.2.2.2.2.2.2.2 r51.2.2.2.2.2.2.2.2.1 r51.2.2.2.2.2.2.2.2.2.1 r51.2.2.2.2.2.2.2.2.2.2.1 r51.2.2.2.2.2.2.2.2.2.2.2.1 r51.2.2.2.2.2.2.2.2.2.2.2.2.1 r51.2.2.2.2.2.2.2.2.2.2.2.2.2.1 r51.2.2.2.2.2.2.2.2.2.2.2.2.2.2.1 r51.2.2.2.2.2.2.2.2.2.2.2.2.2.2.2.1 r51.2.2.2.2.2.2.2.2.2.2.2.2.2.2.2.2.1 r51.2.2.2.2.2.2.2.2.2.2.2.2.2.2.2.2.2.1 r51.2.2.2.2.2.2.2.2.2.2.2.2.2.2.2.2.2.2 aside] → lv_has ls 10 [(0, .ref (a o)), (1, .int x24), (2, .int x25), (3, .int x26), (4, .int x27), (5, .int x28), (6, .int r51.1), (7, .int r52)] → j122_63 = some u → W p l e (g_rm 8 190) s m args below meth c H locs 0 0 Q (F0 m 122 ls []) := by
            intro  H locs ls hw hl h
            subst ej122_63
            refine lv_iconst (v := 1) hx hb dX11_bestMethod_122 (by decide) ?_
            refine lv_goto (tgt := 127) hx hb dX11_bestMethod_123 (by decide) ?_
            exact hj127_55 (1 : Int32) _ _ _ hw (lv_sub hl [0, 1, 2, 3, 4, 5, 6, 7] rfl) h
          refine lv_if_lt (tgt := 122) hx hb dX11_bestMethod_79 (by decide) (fun hc79 => ?_) (fun hc79 => ?_)
          · rw [if_pos hc79] at h
            exact hj122_63  _ _ _ hw (lv_sub hl [1, 2, 3, 4, 5, 6, 7, 8] rfl) h
          · rw [if_neg hc79] at h
            refine lv_iload hx hb dX11_bestMethod_82 (lv_at hl 7 rfl) ?_
            refine lv_iload_n hx hb dX11_bestMethod_84 rfl (lv_at hl 3 rfl) ?_
            refine lv_icmp_lt (tgt := 122) hx hb dX11_bestMethod_85 (by decide) (fun hc85 => ?_) (fun hc85 => ?_)
            · rw [if_pos hc85] at h
              exact hj122_63  _ _ _ hw (lv_sub hl [1, 2, 3, 4, 5, 6, 7, 8] rfl) h
            · rw [if_neg hc85] at h
              refine lv_iload hx hb dX11_bestMethod_88 (lv_at hl 0 rfl) ?_
              obtain ⟨j126_64, ej126_64, h⟩ := g_jn_nm h
              have hj126_64 : ∀ (H : Heap) (locs : List Loc) (ls : Array Slot), b_Wd D A s.heap H locs [k_Model g a o pasts length printed told state r1.1 r1.2.1 r51.2.1 r51.2.2.1 r51.2.2.2.1 r51.2.2.2.2.1 r51.2.2.2.2.2.1 r51.2.2.2.2.2.2.1 r51.2.2.2.2.2.2.2.1 r2 past kept isKept text paper r1.2.2.1 r1.2.2.2.1 r1.2.2.2.2.1 r1.2.2.2.2.2.1 r1.2.2.2.2.2.2.1 r1.2.2.2.2.2.2.2 r51.2.2.2.2.2.2.2.2.1 r51.2.2.2.2.2.2.2.2.2.1 r51.2.2.2.2.2.2.2.2.2.2.1 r51.2.2.2.2.2.2.2.2.2.2.2.1 r51.2.2.2.2.2.2.2.2.2.2.2.2.1 r51.2.2.2.2.2.2.2.2.2.2.2.2.2.1 r51.2.2.2.2.2.2.2.2.2.2.2.2.2.2.1 r51.2.2.2.2.2.2.2.2.2.2.2.2.2.2.2.1 r51.2.2.2.2.2.2.2.2.2.2.2.2.2.2.2.2.1 r51.2.2.2.2.2.2.2.2.2.2.2.2.2.2.2.2.2.1 r51.2.2.2.2.2.2.2.2.2.2.2.2.2.2.2.2.2.2 aside] → lv_has ls 10 [(0, .ref (a o)), (1, .int x24), (2, .int x25), (3, .int x26), (4, .int x27), (5, .int x28), (6, .int r51.1), (7, .int r52)] → j126_64 = some u → W p l e (g_rm 8 190) s m args below meth c H locs 0 0 Q (F0 m 126 ls []) := by
                intro  H locs ls hw hl h
                subst ej126_64
                refine lv_iconst (v := 0) hx hb dX11_bestMethod_126 (by decide) ?_
                exact hj127_55 (0 : Int32) _ _ _ hw (lv_sub hl [0, 1, 2, 3, 4, 5, 6, 7] rfl) h
              refine lv_if_eq (tgt := 126) hx hb dX11_bestMethod_90 (by decide) (fun hc90 => ?_) (fun hc90 => ?_)
              · rw [if_pos hc90] at h
                exact hj126_64  _ _ _ hw (lv_sub hl [1, 2, 3, 4, 5, 6, 7, 8] rfl) h
              · rw [if_neg hc90] at h
                refine lv_aload_n hx hb dX11_bestMethod_93 rfl (lv_at hl 1 rfl) ?_
                refine b_get hx hb hT hK hown fl_X11_7 hw 0 0 rfl rfl (v := .ref (a (o+1))) rfl dX11_bestMethod_94 ?_
                refine lv_bipush (v := 13) hx hb dX11_bestMethod_97 (by decide) ?_
                obtain ⟨x66, ex66, hix66, h⟩ := g_rd_some h
                refine b_iald hx hb hK hw 0 1 rfl (f := r51.2.2.2.2.2.2.2.1) rfl hix66 ex66 dX11_bestMethod_99 ?_
                refine lv_iload_n hx hb dX11_bestMethod_100 rfl (lv_at hl 4 rfl) ?_
                refine lv_icmp_lt (tgt := 122) hx hb dX11_bestMethod_101 (by decide) (fun hc101 => ?_) (fun hc101 => ?_)
                · rw [if_pos hc101] at h
                  exact hj122_63  _ _ _ hw (lv_sub hl [1, 2, 3, 4, 5, 6, 7, 8] rfl) h
                · rw [if_neg hc101] at h
                  refine lv_aload_n hx hb dX11_bestMethod_104 rfl (lv_at hl 1 rfl) ?_
                  refine b_get hx hb hT hK hown fl_X11_7 hw 0 0 rfl rfl (v := .ref (a (o+1))) rfl dX11_bestMethod_105 ?_
                  refine lv_bipush (v := 13) hx hb dX11_bestMethod_108 (by decide) ?_
                  obtain ⟨x67, ex67, hix67, h⟩ := g_rd_some h
                  refine b_iald hx hb hK hw 0 1 rfl (f := r51.2.2.2.2.2.2.2.1) rfl hix67 ex67 dX11_bestMethod_110 ?_
                  refine lv_iload_n hx hb dX11_bestMethod_111 rfl (lv_at hl 4 rfl) ?_
                  refine lv_icmp_ne (tgt := 126) hx hb dX11_bestMethod_112 (by decide) (fun hc112 => ?_) (fun hc112 => ?_)
                  · rw [if_neg hc112] at h
                    exact hj126_64  _ _ _ hw (lv_sub hl [1, 2, 3, 4, 5, 6, 7, 8] rfl) h
                  · rw [if_pos hc112] at h
                    refine lv_iload hx hb dX11_bestMethod_115 (lv_at hl 8 rfl) ?_
                    refine lv_iload hx hb dX11_bestMethod_117 (lv_at hl 5 rfl) ?_
                    refine lv_icmp_ge (tgt := 126) hx hb dX11_bestMethod_119 (by decide) (fun hc119 => ?_) (fun hc119 => ?_)
                    · rw [if_pos hc119] at h
                      exact hj126_64  _ _ _ hw (lv_sub hl [1, 2, 3, 4, 5, 6, 7, 8] rfl) h
                    · rw [if_neg hc119] at h
                      exact hj122_63  _ _ _ hw (lv_sub hl [1, 2, 3, 4, 5, 6, 7, 8] rfl) h
        obtain ⟨j75_67, ej75_67, h⟩ := g_jn_nm h
        have hj75_67 : ∀ (H : Heap) (locs : List Loc) (ls : Array Slot), b_Wd D A s.heap H locs [k_Model g a o pasts length printed told state r1.1 r1.2.1 r51.2.1 r51.2.2.1 r51.2.2.2.1 r51.2.2.2.2.1 r51.2.2.2.2.2.1 r51.2.2.2.2.2.2.1 r51.2.2.2.2.2.2.2.1 r2 past kept isKept text paper r1.2.2.1 r1.2.2.2.1 r1.2.2.2.2.1 r1.2.2.2.2.2.1 r1.2.2.2.2.2.2.1 r1.2.2.2.2.2.2.2 r51.2.2.2.2.2.2.2.2.1 r51.2.2.2.2.2.2.2.2.2.1 r51.2.2.2.2.2.2.2.2.2.2.1 r51.2.2.2.2.2.2.2.2.2.2.2.1 r51.2.2.2.2.2.2.2.2.2.2.2.2.1 r51.2.2.2.2.2.2.2.2.2.2.2.2.2.1 r51.2.2.2.2.2.2.2.2.2.2.2.2.2.2.1 r51.2.2.2.2.2.2.2.2.2.2.2.2.2.2.2.1 r51.2.2.2.2.2.2.2.2.2.2.2.2.2.2.2.2.1 r51.2.2.2.2.2.2.2.2.2.2.2.2.2.2.2.2.2.1 r51.2.2.2.2.2.2.2.2.2.2.2.2.2.2.2.2.2.2 aside] → lv_has ls 10 [(0, .ref (a o)), (1, .int x24), (2, .int x25), (3, .int x26), (4, .int x27), (5, .int x28), (6, .int r51.1), (7, .int r52)] → j75_67 = some u → W p l e (g_rm 8 190) s m args below meth c H locs 0 0 Q (F0 m 75 ls []) := by
          intro  H locs ls hw hl h
          subst ej75_67
          refine lv_iconst (v := 0) hx hb dX11_bestMethod_75 (by decide) ?_
          exact hj76_53 (0 : Int32) _ _ _ hw (lv_sub hl [0, 1, 2, 3, 4, 5, 6, 7] rfl) h
        refine lv_if_lt (tgt := 75) hx hb dX11_bestMethod_62 (by decide) (fun hc62 => ?_) (fun hc62 => ?_)
        · rw [if_pos hc62] at h
          exact hj75_67  _ _ _ hw (lv_sub hl [2, 3, 4, 5, 6, 7, 1, 0] rfl) h
        · rw [if_neg hc62] at h
          refine lv_iload hx hb dX11_bestMethod_65 (lv_at hl 1 rfl) ?_
          refine lv_iload_n hx hb dX11_bestMethod_67 rfl (lv_at hl 4 rfl) ?_
          refine lv_icmp_ne (tgt := 75) hx hb dX11_bestMethod_68 (by decide) (fun hc68 => ?_) (fun hc68 => ?_)
          · rw [if_neg hc68] at h
            exact hj75_67  _ _ _ hw (lv_sub hl [2, 3, 4, 5, 6, 7, 1, 0] rfl) h
          · rw [if_pos hc68] at h
            refine lv_iconst (v := 1) hx hb dX11_bestMethod_71 (by decide) ?_
            refine lv_goto (tgt := 76) hx hb dX11_bestMethod_72 (by decide) ?_
            exact hj76_53 (1 : Int32) _ _ _ hw (lv_sub hl [2, 3, 4, 5, 6, 7, 1, 0] rfl) h
  exact hL20 g_fuel (-1 : Int32) (0 : Int32) (0 : Int32) (0 : Int32) (0 : Int32) boxes frees bestFree bestTurned bestFirst bestSecond v boxX boxY boxW boxH freeAtX freeAtY freeW freeH begins ends tried _ _ _ hw (lv_sub hl [5, 4, 3, 2, 1, 0] rfl) h
set_option maxRecDepth 100000 in
set_option maxHeartbeats 4000000 in
theorem c_X11_smallestPage (l : Launch) (D : va_G) (g : Nat → ClassId) (a : Nat → Nat) (o : Nat) (pasts : Int32) (length : Int32) (printed : Int32) (told : Int32) (state : Int64) (backX : Int32) (backY : Int32) (boxes : Int32) (frees : Int32) (bestFree : Int32) (bestTurned : Int32) (bestFirst : Int32) (bestSecond : Int32) (v : (Nat → Int32)) (spare : (Nat → Int32)) (past : (Nat → Int32)) (kept : (Nat → Int32)) (isKept : (Nat → Int32)) (text : (Nat → Int32)) (paper : (Nat → Int32)) (left : (Nat → Int32)) (top : (Nat → Int32)) (wide : (Nat → Int32)) (high : (Nat → Int32)) (original : (Nat → Int32)) (turn : (Nat → Int32)) (boxX : (Nat → Int32)) (boxY : (Nat → Int32)) (boxW : (Nat → Int32)) (boxH : (Nat → Int32)) (freeAtX : (Nat → Int32)) (freeAtY : (Nat → Int32)) (freeW : (Nat → Int32)) (freeH : (Nat → Int32)) (begins : (Nat → Int32)) (ends : (Nat → Int32)) (tried : (Nat → Int32)) (aside : (Nat → Int32)) (u : Int32 × Int32 × Int32 × Int32 × Int32 × Int32 × Int32 × Int32 × Int32 × (Nat → Int32) × (Nat → Int32) × (Nat → Int32) × (Nat → Int32) × (Nat → Int32) × (Nat → Int32) × (Nat → Int32) × (Nat → Int32) × (Nat → Int32) × (Nat → Int32) × (Nat → Int32) × (Nat → Int32) × (Nat → Int32) × (Nat → Int32) × (Nat → Int32) × (Nat → Int32) × (Nat → Int32) × (Nat → Int32) × (Nat → Int32)) (h : f_X11_smallestPage backX backY boxes frees bestFree bestTurned bestFirst bestSecond v spare left top wide high original turn boxX boxY boxW boxH freeAtX freeAtY freeW freeH begins ends tried = some u) : b_Ct l yX11_smallestPage cX11_smallestPage 3 (some .int) 8 190 D g [.ref (a o)] [k_Model g a o pasts length printed told state backX backY boxes frees bestFree bestTurned bestFirst bestSecond v spare past kept isKept text paper left top wide high original turn boxX boxY boxW boxH freeAtX freeAtY freeW freeH begins ends tried aside] [k_Model g a o pasts length printed told state u.2.1 u.2.2.1 u.2.2.2.1 u.2.2.2.2.1 u.2.2.2.2.2.1 u.2.2.2.2.2.2.1 u.2.2.2.2.2.2.2.1 u.2.2.2.2.2.2.2.2.1 u.2.2.2.2.2.2.2.2.2.1 u.2.2.2.2.2.2.2.2.2.2.1 past kept isKept text paper u.2.2.2.2.2.2.2.2.2.2.2.1 u.2.2.2.2.2.2.2.2.2.2.2.2.1 u.2.2.2.2.2.2.2.2.2.2.2.2.2.1 u.2.2.2.2.2.2.2.2.2.2.2.2.2.2.1 u.2.2.2.2.2.2.2.2.2.2.2.2.2.2.2.1 u.2.2.2.2.2.2.2.2.2.2.2.2.2.2.2.2.1 u.2.2.2.2.2.2.2.2.2.2.2.2.2.2.2.2.2.1 u.2.2.2.2.2.2.2.2.2.2.2.2.2.2.2.2.2.2.1 u.2.2.2.2.2.2.2.2.2.2.2.2.2.2.2.2.2.2.2.1 u.2.2.2.2.2.2.2.2.2.2.2.2.2.2.2.2.2.2.2.2.1 u.2.2.2.2.2.2.2.2.2.2.2.2.2.2.2.2.2.2.2.2.2.1 u.2.2.2.2.2.2.2.2.2.2.2.2.2.2.2.2.2.2.2.2.2.2.1 u.2.2.2.2.2.2.2.2.2.2.2.2.2.2.2.2.2.2.2.2.2.2.2.1 u.2.2.2.2.2.2.2.2.2.2.2.2.2.2.2.2.2.2.2.2.2.2.2.2.1 u.2.2.2.2.2.2.2.2.2.2.2.2.2.2.2.2.2.2.2.2.2.2.2.2.2.1 u.2.2.2.2.2.2.2.2.2.2.2.2.2.2.2.2.2.2.2.2.2.2.2.2.2.2.1 u.2.2.2.2.2.2.2.2.2.2.2.2.2.2.2.2.2.2.2.2.2.2.2.2.2.2.2 aside] (some (.int u.1)) := by
  refine b_start RX11 (by decide) rfl (Nat.le_of_ble_eq_true rfl) rfl ?_
  intro p e s m args below meth c A ls Q hQ hx hb hr hlk hml hown hT hK hA hw hl
  have hl : lv_has ls 3 [(0, .ref (a o))] := hl
  unfold f_X11_smallestPage at h
  refine lv_aload_n hx hb dX11_smallestPage_0 rfl (lv_at hl 0 rfl) ?_
  obtain ⟨r1, er1, h⟩ := g_cl_some h
  refine b_callV hx hb hml hown hT hK hA hw mk_X11_176 (c_X11_knows l D g a o pasts length printed told state backX backY boxes frees bestFree bestTurned bestFirst bestSecond v spare past kept isKept text paper left top wide high original turn boxX boxY boxW boxH freeAtX freeAtY freeW freeH begins ends tried aside r1 er1) [0] [] rfl (by decide) 0 0 rfl rfl rfl rfl hl.1 [] rfl (Nat.le_of_ble_eq_true rfl) ⟨Nat.le_of_ble_eq_true rfl, Nat.le_of_ble_eq_true rfl⟩ ⟨Nat.zero_le _, Nat.zero_le _⟩ dX11_smallestPage_1 (wb' := [k_Model g a o pasts length printed told state r1.1 r1.2.1 boxes frees bestFree bestTurned bestFirst bestSecond v spare past kept isKept text paper r1.2.2.1 r1.2.2.2.1 r1.2.2.2.2.1 r1.2.2.2.2.2.1 r1.2.2.2.2.2.2.1 r1.2.2.2.2.2.2.2 boxX boxY boxW boxH freeAtX freeAtY freeW freeH begins ends tried aside]) rfl b_e0 1 rfl (by decide) (st2 := []) rfl (fun H locs hw => ?_)
  refine lv_aload_n hx hb dX11_smallestPage_4 rfl (lv_at hl 0 rfl) ?_
  obtain ⟨r2, er2, h⟩ := g_cl_some h
  refine b_callV hx hb hml hown hT hK hA hw mk_X11_260 (c_X11_keeps l D g a o pasts length printed told state r1.1 r1.2.1 boxes frees bestFree bestTurned bestFirst bestSecond v spare past kept isKept text paper r1.2.2.1 r1.2.2.2.1 r1.2.2.2.2.1 r1.2.2.2.2.2.1 r1.2.2.2.2.2.2.1 r1.2.2.2.2.2.2.2 boxX boxY boxW boxH freeAtX freeAtY freeW freeH begins ends tried aside r2 er2) [0] [] rfl (by decide) 0 0 rfl rfl rfl rfl hl.1 [] rfl (Nat.le_of_ble_eq_true rfl) ⟨Nat.le_of_ble_eq_true rfl, Nat.le_of_ble_eq_true rfl⟩ ⟨Nat.zero_le _, Nat.zero_le _⟩ dX11_smallestPage_5 (wb' := [k_Model g a o pasts length printed told state r1.1 r1.2.1 boxes frees bestFree bestTurned bestFirst bestSecond v r2 past kept isKept text paper r1.2.2.1 r1.2.2.2.1 r1.2.2.2.2.1 r1.2.2.2.2.2.1 r1.2.2.2.2.2.2.1 r1.2.2.2.2.2.2.2 boxX boxY boxW boxH freeAtX freeAtY freeW freeH begins ends tried aside]) rfl b_e0 1 rfl (by decide) (st2 := []) rfl (fun H locs hw => ?_)
  refine lv_aload_n hx hb dX11_smallestPage_8 rfl (lv_at hl 0 rfl) ?_
  refine b_get hx hb hT hK hown fl_X11_7 hw 0 0 rfl rfl (v := .ref (a (o+1))) rfl dX11_smallestPage_9 ?_
  refine lv_iconst (v := 3) hx hb dX11_smallestPage_12 (by decide) ?_
  refine lv_iconst (v := 1) hx hb dX11_smallestPage_13 (by decide) ?_
  obtain ⟨f3, ef3, hif3, h⟩ := g_wr_some h
  refine b_iast hx hb hK hw 0 1 rfl (f := v) rfl hif3 ef3 rfl (wb' := [k_Model g a o pasts length printed told state r1.1 r1.2.1 boxes frees bestFree bestTurned bestFirst bestSecond f3 r2 past kept isKept text paper r1.2.2.1 r1.2.2.2.1 r1.2.2.2.2.1 r1.2.2.2.2.2.1 r1.2.2.2.2.2.2.1 r1.2.2.2.2.2.2.2 boxX boxY boxW boxH freeAtX freeAtY freeW freeH begins ends tried aside]) rfl dX11_smallestPage_14 (fun H locs hw => ?_)
  refine lv_aload_n hx hb dX11_smallestPage_15 rfl (lv_at hl 0 rfl) ?_
  refine b_get hx hb hT hK hown fl_X11_7 hw 0 0 rfl rfl (v := .ref (a (o+1))) rfl dX11_smallestPage_16 ?_
  refine lv_bipush (v := 10) hx hb dX11_smallestPage_19 (by decide) ?_
  refine lv_iconst (v := 0) hx hb dX11_smallestPage_21 (by decide) ?_
  obtain ⟨f4, ef4, hif4, h⟩ := g_wr_some h
  refine b_iast hx hb hK hw 0 1 rfl (f := f3) rfl hif4 ef4 rfl (wb' := [k_Model g a o pasts length printed told state r1.1 r1.2.1 boxes frees bestFree bestTurned bestFirst bestSecond f4 r2 past kept isKept text paper r1.2.2.1 r1.2.2.2.1 r1.2.2.2.2.1 r1.2.2.2.2.2.1 r1.2.2.2.2.2.2.1 r1.2.2.2.2.2.2.2 boxX boxY boxW boxH freeAtX freeAtY freeW freeH begins ends tried aside]) rfl dX11_smallestPage_22 (fun H locs hw => ?_)
  refine lv_bipush (v := -4) hx hb dX11_smallestPage_23 (by decide) ?_
  refine lv_istore_n (lv' := [(1, .int (-4 : Int32)), (0, .ref (a o))]) hx hb dX11_smallestPage_25 rfl hl (by decide) rfl (fun ls hl => ?_)
  refine lv_iconst (v := 4) hx hb dX11_smallestPage_26 (by decide) ?_
  refine lv_istore_n (lv' := [(2, .int (4 : Int32)), (1, .int (-4 : Int32)), (0, .ref (a o))]) hx hb dX11_smallestPage_27 rfl hl (by decide) rfl (fun ls hl => ?_)
  obtain ⟨k71_23, ek71_23, h⟩ := g_jn_nm h
  have hk71_23 : ∀ (x5 : Int32) (x6 : Int32) (x7 : Int32) (x8 : Int32) (x9 : Int32) (x10 : Int32) (x11 : Int32) (f12 : Nat → Int32) (f13 : Nat → Int32) (f14 : Nat → Int32) (f15 : Nat → Int32) (f16 : Nat → Int32) (f17 : Nat → Int32) (f18 : Nat → Int32) (f19 : Nat → Int32) (f20 : Nat → Int32) (f21 : Nat → Int32) (f22 : Nat → Int32) (f23 : Nat → Int32) (H : Heap) (locs : List Loc) (ls : Array Slot), b_Wd D A s.heap H locs [k_Model g a o pasts length printed told state r1.1 r1.2.1 x6 x7 x8 x9 x10 x11 f12 r2 past kept isKept text paper r1.2.2.1 r1.2.2.2.1 r1.2.2.2.2.1 r1.2.2.2.2.2.1 r1.2.2.2.2.2.2.1 r1.2.2.2.2.2.2.2 f13 f14 f15 f16 f17 f18 f19 f20 f21 f22 f23 aside] → lv_has ls 3 [(0, .ref (a o)), (1, .int x5)] → k71_23 x5 x6 x7 x8 x9 x10 x11 f12 f13 f14 f15 f16 f17 f18 f19 f20 f21 f22 f23 = some u → W p l e (g_rm 8 190) s m args below meth c H locs 0 0 Q (F0 m 71 ls []) := by
    intro x5 x6 x7 x8 x9 x10 x11 f12 f13 f14 f15 f16 f17 f18 f19 f20 f21 f22 f23 H locs ls hw hl h
    subst ek71_23
    dsimp only at h
    refine lv_aload_n hx hb dX11_smallestPage_71 rfl (lv_at hl 0 rfl) ?_
    obtain ⟨r25, er25, h⟩ := g_cl_some h
    refine b_callV hx hb hml hown hT hK hA hw mk_X11_267 (c_X11_brings l D g a o pasts length printed told state r1.1 r1.2.1 x6 x7 x8 x9 x10 x11 f12 r2 past kept isKept text paper r1.2.2.1 r1.2.2.2.1 r1.2.2.2.2.1 r1.2.2.2.2.2.1 r1.2.2.2.2.2.2.1 r1.2.2.2.2.2.2.2 f13 f14 f15 f16 f17 f18 f19 f20 f21 f22 f23 aside r25 er25) [0] [] rfl (by decide) 0 0 rfl rfl rfl rfl hl.1 [] rfl (Nat.le_of_ble_eq_true rfl) ⟨Nat.le_of_ble_eq_true rfl, Nat.le_of_ble_eq_true rfl⟩ ⟨Nat.zero_le _, Nat.zero_le _⟩ dX11_smallestPage_72 (wb' := [k_Model g a o pasts length printed told state r1.1 r1.2.1 x6 x7 x8 x9 x10 x11 r25 r2 past kept isKept text paper r1.2.2.1 r1.2.2.2.1 r1.2.2.2.2.1 r1.2.2.2.2.2.1 r1.2.2.2.2.2.2.1 r1.2.2.2.2.2.2.2 f13 f14 f15 f16 f17 f18 f19 f20 f21 f22 f23 aside]) rfl b_e0 1 rfl (by decide) (st2 := []) rfl (fun H locs hw => ?_)
    refine lv_iload_n hx hb dX11_smallestPage_75 rfl (lv_at hl 1 rfl) ?_
    obtain rfl := Option.some.inj h
    exact b_iret hQ hx hb hr hlk hw rfl dX11_smallestPage_76
  have hL28 : ∀ (n : Nat) (x26 : Int32) (x27 : Int32) (x28 : Int32) (x29 : Int32) (x30 : Int32) (x31 : Int32) (x32 : Int32) (x33 : Int32) (f34 : Nat → Int32) (f35 : Nat → Int32) (f36 : Nat → Int32) (f37 : Nat → Int32) (f38 : Nat → Int32) (f39 : Nat → Int32) (f40 : Nat → Int32) (f41 : Nat → Int32) (f42 : Nat → Int32) (f43 : Nat → Int32) (f44 : Nat → Int32) (f45 : Nat → Int32) (H : Heap) (locs : List Loc) (ls : Array Slot), b_Wd D A s.heap H locs [k_Model g a o pasts length printed told state r1.1 r1.2.1 x28 x29 x30 x31 x32 x33 f34 r2 past kept isKept text paper r1.2.2.1 r1.2.2.2.1 r1.2.2.2.2.1 r1.2.2.2.2.2.1 r1.2.2.2.2.2.2.1 r1.2.2.2.2.2.2.2 f35 f36 f37 f38 f39 f40 f41 f42 f43 f44 f45 aside] → lv_has ls 3 [(0, .ref (a o)), (1, .int x26), (2, .int x27)] → f_X11_smallestPage_L28 r1 k71_23 n x26 x27 x28 x29 x30 x31 x32 x33 f34 f35 f36 f37 f38 f39 f40 f41 f42 f43 f44 f45 = some u → W p l e (g_rm 8 190) s m args below meth c H locs 0 0 Q (F0 m 28 ls []) := by
    intro n
    induction n with
    | zero =>
      intro x26 x27 x28 x29 x30 x31 x32 x33 f34 f35 f36 f37 f38 f39 f40 f41 f42 f43 f44 f45 H locs ls hw hl h
      cases (show none = some u from h)
    | succ n ih28 =>
      intro x26 x27 x28 x29 x30 x31 x32 x33 f34 f35 f36 f37 f38 f39 f40 f41 f42 f43 f44 f45 H locs ls hw hl h
      rw [f_X11_smallestPage_L28] at h
      refine lv_iload_n hx hb dX11_smallestPage_28 rfl (lv_at hl 2 rfl) ?_
      refine lv_bipush (v := 32) hx hb dX11_smallestPage_29 (by decide) ?_
      refine lv_icmp_gt (tgt := 71) hx hb dX11_smallestPage_31 (by decide) (fun hc31 => ?_) (fun hc31 => ?_)
      · rw [if_pos hc31] at h
        exact hk71_23 x26 x28 x29 x30 x31 x32 x33 f34 f35 f36 f37 f38 f39 f40 f41 f42 f43 f44 f45 _ _ _ hw (lv_sub hl [0, 1] rfl) h
      · rw [if_neg hc31] at h
        refine lv_iload_n hx hb dX11_smallestPage_34 rfl (lv_at hl 1 rfl) ?_
        refine lv_if_ge (tgt := 71) hx hb dX11_smallestPage_35 (by decide) (fun hc35 => ?_) (fun hc35 => ?_)
        · rw [if_pos hc35] at h
          exact hk71_23 x26 x28 x29 x30 x31 x32 x33 f34 f35 f36 f37 f38 f39 f40 f41 f42 f43 f44 f45 _ _ _ hw (lv_sub hl [0, 1] rfl) h
        · rw [if_neg hc35] at h
          refine lv_aload_n hx hb dX11_smallestPage_38 rfl (lv_at hl 0 rfl) ?_
          refine b_get hx hb hT hK hown fl_X11_7 hw 0 0 rfl rfl (v := .ref (a (o+1))) rfl dX11_smallestPage_39 ?_
          refine lv_iconst (v := 1) hx hb dX11_smallestPage_42 (by decide) ?_
          refine lv_iload_n hx hb dX11_smallestPage_43 rfl (lv_at hl 2 rfl) ?_
          obtain ⟨f46, ef46, hif46, h⟩ := g_wr_some h
          refine b_iast hx hb hK hw 0 1 rfl (f := f34) rfl hif46 ef46 rfl (wb' := [k_Model g a o pasts length printed told state r1.1 r1.2.1 x28 x29 x30 x31 x32 x33 f46 r2 past kept isKept text paper r1.2.2.1 r1.2.2.2.1 r1.2.2.2.2.1 r1.2.2.2.2.2.1 r1.2.2.2.2.2.2.1 r1.2.2.2.2.2.2.2 f35 f36 f37 f38 f39 f40 f41 f42 f43 f44 f45 aside]) rfl dX11_smallestPage_44 (fun H locs hw => ?_)
          refine lv_aload_n hx hb dX11_smallestPage_45 rfl (lv_at hl 0 rfl) ?_
          refine b_get hx hb hT hK hown fl_X11_7 hw 0 0 rfl rfl (v := .ref (a (o+1))) rfl dX11_smallestPage_46 ?_
          refine lv_iconst (v := 2) hx hb dX11_smallestPage_49 (by decide) ?_
          refine lv_iload_n hx hb dX11_smallestPage_50 rfl (lv_at hl 2 rfl) ?_
          obtain ⟨f47, ef47, hif47, h⟩ := g_wr_some h
          refine b_iast hx hb hK hw 0 1 rfl (f := f46) rfl hif47 ef47 rfl (wb' := [k_Model g a o pasts length printed told state r1.1 r1.2.1 x28 x29 x30 x31 x32 x33 f47 r2 past kept isKept text paper r1.2.2.1 r1.2.2.2.1 r1.2.2.2.2.1 r1.2.2.2.2.2.1 r1.2.2.2.2.2.2.1 r1.2.2.2.2.2.2.2 f35 f36 f37 f38 f39 f40 f41 f42 f43 f44 f45 aside]) rfl dX11_smallestPage_51 (fun H locs hw => ?_)
          refine lv_aload_n hx hb dX11_smallestPage_52 rfl (lv_at hl 0 rfl) ?_
          obtain ⟨r48, er48, h⟩ := g_cl_some h
          refine b_callV hx hb hml hown hT hK hA hw mk_X11_257 (c_X11_packs l D g a o pasts length printed told state r1.1 r1.2.1 x28 x29 x30 x31 x32 x33 f47 r2 past kept isKept text paper r1.2.2.1 r1.2.2.2.1 r1.2.2.2.2.1 r1.2.2.2.2.2.1 r1.2.2.2.2.2.2.1 r1.2.2.2.2.2.2.2 f35 f36 f37 f38 f39 f40 f41 f42 f43 f44 f45 aside r48 er48) [0] [] rfl (by decide) 0 0 rfl rfl rfl rfl hl.1 [] rfl (Nat.le_of_ble_eq_true rfl) ⟨Nat.le_of_ble_eq_true rfl, Nat.le_of_ble_eq_true rfl⟩ ⟨Nat.zero_le _, Nat.zero_le _⟩ dX11_smallestPage_53 (wb' := [k_Model g a o pasts length printed told state r1.1 r1.2.1 r48.2.1 r48.2.2.1 r48.2.2.2.1 r48.2.2.2.2.1 r48.2.2.2.2.2.1 r48.2.2.2.2.2.2.1 r48.2.2.2.2.2.2.2.1 r2 past kept isKept text paper r1.2.2.1 r1.2.2.2.1 r1.2.2.2.2.1 r1.2.2.2.2.2.1 r1.2.2.2.2.2.2.1 r1.2.2.2.2.2.2.2 r48.2.2.2.2.2.2.2.2.1 r48.2.2.2.2.2.2.2.2.2.1 r48.2.2.2.2.2.2.2.2.2.2.1 r48.2.2.2.2.2.2.2.2.2.2.2.1 r48.2.2.2.2.2.2.2.2.2.2.2.2.1 r48.2.2.2.2.2.2.2.2.2.2.2.2.2.1 r48.2.2.2.2.2.2.2.2.2.2.2.2.2.2.1 r48.2.2.2.2.2.2.2.2.2.2.2.2.2.2.2.1 r48.2.2.2.2.2.2.2.2.2.2.2.2.2.2.2.2.1 r48.2.2.2.2.2.2.2.2.2.2.2.2.2.2.2.2.2.1 r48.2.2.2.2.2.2.2.2.2.2.2.2.2.2.2.2.2.2 aside]) rfl b_e0 1 rfl (by decide) (st2 := [.int r48.1]) rfl (fun H locs hw => ?_)
          obtain ⟨j64_49, ej64_49, h⟩ := g_bd_k h
          have hj64_49 : ∀ (x49 : Int32) (H : Heap) (locs : List Loc) (ls : Array Slot), b_Wd D A s.heap H locs [k_Model g a o pasts length printed told state r1.1 r1.2.1 r48.2.1 r48.2.2.1 r48.2.2.2.1 r48.2.2.2.2.1 r48.2.2.2.2.2.1 r48.2.2.2.2.2.2.1 r48.2.2.2.2.2.2.2.1 r2 past kept isKept text paper r1.2.2.1 r1.2.2.2.1 r1.2.2.2.2.1 r1.2.2.2.2.2.1 r1.2.2.2.2.2.2.1 r1.2.2.2.2.2.2.2 r48.2.2.2.2.2.2.2.2.1 r48.2.2.2.2.2.2.2.2.2.1 r48.2.2.2.2.2.2.2.2.2.2.1 r48.2.2.2.2.2.2.2.2.2.2.2.1 r48.2.2.2.2.2.2.2.2.2.2.2.2.1 r48.2.2.2.2.2.2.2.2.2.2.2.2.2.1 r48.2.2.2.2.2.2.2.2.2.2.2.2.2.2.1 r48.2.2.2.2.2.2.2.2.2.2.2.2.2.2.2.1 r48.2.2.2.2.2.2.2.2.2.2.2.2.2.2.2.2.1 r48.2.2.2.2.2.2.2.2.2.2.2.2.2.2.2.2.2.1 r48.2.2.2.2.2.2.2.2.2.2.2.2.2.2.2.2.2.2 aside] → lv_has ls 3 [(0, .ref (a o)), (2, .int x27)] → j64_49 x49 = some u → W p l e (g_rm 8 190) s m args below meth c H locs 0 0 Q (F0 m 64 ls [.int x49]) := by
            intro x49 H locs ls hw hl h
            subst ej64_49
            dsimp only at h
            refine lv_istore_n (lv' := [(1, .int x49), (0, .ref (a o)), (2, .int x27)]) hx hb dX11_smallestPage_64 rfl hl (by decide) rfl (fun ls hl => ?_)
            obtain ⟨x50, ex50, h⟩ := g_bd_nm h
            refine lv_iinc (v := x50) (lv' := [(2, .int x50), (1, .int x49), (0, .ref (a o))]) hx hb dX11_smallestPage_65 hl (k := 2) rfl (by rw [ex50]; rfl) (by decide) rfl (fun ls hl => ?_)
            refine lv_goto (tgt := 28) hx hb dX11_smallestPage_68 (by decide) ?_
            exact ih28 x49 x50 r48.2.1 r48.2.2.1 r48.2.2.2.1 r48.2.2.2.2.1 r48.2.2.2.2.2.1 r48.2.2.2.2.2.2.1 r48.2.2.2.2.2.2.2.1 r48.2.2.2.2.2.2.2.2.1 r48.2.2.2.2.2.2.2.2.2.1 r48.2.2.2.2.2.2.2.2.2.2.1 r48.2.2.2.2.2.2.2.2.2.2.2.1 r48.2.2.2.2.2.2.2.2.2.2.2.2.1 r48.2.2.2.2.2.2.2.2.2.2.2.2.2.1 r48.2.2.2.2.2.2.2.2.2.2.2.2.2.2.1 r48.2.2.2.2.2.2.2.2.2.2.2.2.2.2.2.1 r48.2.2.2.2.2.2.2.2.2.2.2.2.2.2.2.2.1 r48.2.2.2.2.2.2.2.2.2.2.2.2.2.2.2.2.2.1 r48.2.2.2.2.2.2.2.2.2.2.2.2.2.2.2.2.2.2 _ _ _ hw (lv_sub hl [2, 1, 0] rfl) h
          refine lv_if_ne (tgt := 63) hx hb dX11_smallestPage_56 (by decide) (fun hc56 => ?_) (fun hc56 => ?_)
          · rw [if_neg hc56] at h
            refine lv_iload_n hx hb dX11_smallestPage_63 rfl (lv_at hl 1 rfl) ?_
            exact hj64_49 x26 _ _ _ hw (lv_sub hl [0, 2] rfl) h
          · rw [if_pos hc56] at h
            refine lv_iload_n hx hb dX11_smallestPage_59 rfl (lv_at hl 2 rfl) ?_
            refine lv_goto (tgt := 64) hx hb dX11_smallestPage_60 (by decide) ?_
            exact hj64_49 x27 _ _ _ hw (lv_sub hl [0, 2] rfl) h
  exact hL28 g_fuel (-4 : Int32) (4 : Int32) boxes frees bestFree bestTurned bestFirst bestSecond f4 boxX boxY boxW boxH freeAtX freeAtY freeW freeH begins ends tried _ _ _ hw (lv_sub hl [2, 1, 0] rfl) h
set_option maxRecDepth 100000 in
set_option maxHeartbeats 4000000 in
theorem c_X11_sign (l : Launch) (D : va_G) (g : Nat → ClassId) (a : Nat → Nat) (o : Nat) (pasts : Int32) (length : Int32) (printed : Int32) (told : Int32) (state : Int64) (backX : Int32) (backY : Int32) (boxes : Int32) (frees : Int32) (bestFree : Int32) (bestTurned : Int32) (bestFirst : Int32) (bestSecond : Int32) (v : (Nat → Int32)) (spare : (Nat → Int32)) (past : (Nat → Int32)) (kept : (Nat → Int32)) (isKept : (Nat → Int32)) (text : (Nat → Int32)) (paper : (Nat → Int32)) (left : (Nat → Int32)) (top : (Nat → Int32)) (wide : (Nat → Int32)) (high : (Nat → Int32)) (original : (Nat → Int32)) (turn : (Nat → Int32)) (boxX : (Nat → Int32)) (boxY : (Nat → Int32)) (boxW : (Nat → Int32)) (boxH : (Nat → Int32)) (freeAtX : (Nat → Int32)) (freeAtY : (Nat → Int32)) (freeW : (Nat → Int32)) (freeH : (Nat → Int32)) (begins : (Nat → Int32)) (ends : (Nat → Int32)) (tried : (Nat → Int32)) (aside : (Nat → Int32)) (i1 : Int32) (u : Int32 × (Nat → Int32)) (h : f_X11_sign printed paper i1 = some u) : b_Ct l yX11_sign cX11_sign 2 none 0 0 D g [.ref (a o), .int i1] [k_Model g a o pasts length printed told state backX backY boxes frees bestFree bestTurned bestFirst bestSecond v spare past kept isKept text paper left top wide high original turn boxX boxY boxW boxH freeAtX freeAtY freeW freeH begins ends tried aside] [k_Model g a o pasts length u.1 told state backX backY boxes frees bestFree bestTurned bestFirst bestSecond v spare past kept isKept text u.2 left top wide high original turn boxX boxY boxW boxH freeAtX freeAtY freeW freeH begins ends tried aside] none := by
  refine b_start RX11 (by decide) rfl (Nat.le_of_ble_eq_true rfl) rfl ?_
  intro p e s m args below meth c A ls Q hQ hx hb hr hlk hml hown hT hK hA hw hl
  have hl : lv_has ls 2 [(0, .ref (a o)), (1, .int i1)] := hl
  unfold f_X11_sign at h
  refine lv_aload_n hx hb dX11_sign_0 rfl (lv_at hl 0 rfl) ?_
  refine b_get hx hb hT hK hown fl_X11_29 hw 0 0 rfl rfl (v := .ref (a (o+7))) rfl dX11_sign_1 ?_
  refine lv_aload_n hx hb dX11_sign_4 rfl (lv_at hl 0 rfl) ?_
  refine b_get hx hb hT hK hown fl_X11_307 hw 0 0 rfl rfl (v := .int printed) rfl dX11_sign_5 ?_
  refine lv_iload_n hx hb dX11_sign_8 rfl (lv_at hl 1 rfl) ?_
  obtain ⟨f1, ef1, hif1, h⟩ := g_wr_some h
  refine b_iast hx hb hK hw 0 7 rfl (f := paper) rfl hif1 ef1 rfl (wb' := [k_Model g a o pasts length printed told state backX backY boxes frees bestFree bestTurned bestFirst bestSecond v spare past kept isKept text f1 left top wide high original turn boxX boxY boxW boxH freeAtX freeAtY freeW freeH begins ends tried aside]) rfl dX11_sign_9 (fun H locs hw => ?_)
  refine lv_aload_n hx hb dX11_sign_10 rfl (lv_at hl 0 rfl) ?_
  refine lv_dup hx hb dX11_sign_11 rfl ?_
  refine b_get hx hb hT hK hown fl_X11_307 hw 0 0 rfl rfl (v := .int printed) rfl dX11_sign_12 ?_
  refine lv_iconst (v := 1) hx hb dX11_sign_15 (by decide) ?_
  refine lv_iadd hx hb dX11_sign_16 ?_
  obtain ⟨x2, ex2, h⟩ := g_bd_nm h
  refine g_topi ex2 ?_
  refine b_putf hx hb hT hK hown fl_X11_307 ft_X11 hw 0 0 rfl rfl rfl rfl rfl (Nat.le_of_ble_eq_true rfl) rfl (wb' := [k_Model g a o pasts length x2 told state backX backY boxes frees bestFree bestTurned bestFirst bestSecond v spare past kept isKept text f1 left top wide high original turn boxX boxY boxW boxH freeAtX freeAtY freeW freeH begins ends tried aside]) rfl dX11_sign_17 (fun H locs hw => ?_)
  obtain rfl := Option.some.inj h
  exact b_vret hQ hx hb hr hlk hw rfl dX11_sign_20
set_option maxRecDepth 100000 in
set_option maxHeartbeats 4000000 in
theorem c_X11_number (l : Launch) (D : va_G) (g : Nat → ClassId) (a : Nat → Nat) (o : Nat) (pasts : Int32) (length : Int32) (printed : Int32) (told : Int32) (state : Int64) (backX : Int32) (backY : Int32) (boxes : Int32) (frees : Int32) (bestFree : Int32) (bestTurned : Int32) (bestFirst : Int32) (bestSecond : Int32) (v : (Nat → Int32)) (spare : (Nat → Int32)) (past : (Nat → Int32)) (kept : (Nat → Int32)) (isKept : (Nat → Int32)) (text : (Nat → Int32)) (paper : (Nat → Int32)) (left : (Nat → Int32)) (top : (Nat → Int32)) (wide : (Nat → Int32)) (high : (Nat → Int32)) (original : (Nat → Int32)) (turn : (Nat → Int32)) (boxX : (Nat → Int32)) (boxY : (Nat → Int32)) (boxW : (Nat → Int32)) (boxH : (Nat → Int32)) (freeAtX : (Nat → Int32)) (freeAtY : (Nat → Int32)) (freeW : (Nat → Int32)) (freeH : (Nat → Int32)) (begins : (Nat → Int32)) (ends : (Nat → Int32)) (tried : (Nat → Int32)) (aside : (Nat → Int32)) (i1 : Int32) (u : Int32 × (Nat → Int32)) (h : f_X11_number printed paper i1 = some u) : b_Ct l yX11_number cX11_number 2 none 1 21 D g [.ref (a o), .int i1] [k_Model g a o pasts length printed told state backX backY boxes frees bestFree bestTurned bestFirst bestSecond v spare past kept isKept text paper left top wide high original turn boxX boxY boxW boxH freeAtX freeAtY freeW freeH begins ends tried aside] [k_Model g a o pasts length u.1 told state backX backY boxes frees bestFree bestTurned bestFirst bestSecond v spare past kept isKept text u.2 left top wide high original turn boxX boxY boxW boxH freeAtX freeAtY freeW freeH begins ends tried aside] none := by
  refine b_start RX11 (by decide) rfl (Nat.le_of_ble_eq_true rfl) rfl ?_
  intro p e s m args below meth c A ls Q hQ hx hb hr hlk hml hown hT hK hA hw hl
  have hl : lv_has ls 2 [(0, .ref (a o)), (1, .int i1)] := hl
  unfold f_X11_number at h
  refine lv_iload_n hx hb dX11_number_0 rfl (lv_at hl 1 rfl) ?_
  refine lv_bipush (v := 9) hx hb dX11_number_1 (by decide) ?_
  obtain ⟨j17_2, ej17_2, h⟩ := g_jn_nm h
  have hj17_2 : ∀ (x1 : Int32) (f2 : Nat → Int32) (H : Heap) (locs : List Loc) (ls : Array Slot), b_Wd D A s.heap H locs [k_Model g a o pasts length x1 told state backX backY boxes frees bestFree bestTurned bestFirst bestSecond v spare past kept isKept text f2 left top wide high original turn boxX boxY boxW boxH freeAtX freeAtY freeW freeH begins ends tried aside] → lv_has ls 2 [(0, .ref (a o)), (1, .int i1)] → j17_2 x1 f2 = some u → W p l e (g_rm 1 21) s m args below meth c H locs 0 0 Q (F0 m 17 ls []) := by
    intro x1 f2 H locs ls hw hl h
    subst ej17_2
    dsimp only at h
    refine lv_aload_n hx hb dX11_number_17 rfl (lv_at hl 0 rfl) ?_
    refine lv_bipush (v := 48) hx hb dX11_number_18 (by decide) ?_
    refine lv_iload_n hx hb dX11_number_20 rfl (lv_at hl 1 rfl) ?_
    refine lv_bipush (v := 10) hx hb dX11_number_21 (by decide) ?_
    refine g_irem hx hb dX11_number_23 (by decide) ?_
    refine lv_iadd hx hb dX11_number_24 ?_
    obtain ⟨r4, er4, h⟩ := g_cl_some h
    refine b_callV hx hb hml hown hT hK hA hw mk_X11_310 (c_X11_sign l D g a o pasts length x1 told state backX backY boxes frees bestFree bestTurned bestFirst bestSecond v spare past kept isKept text f2 left top wide high original turn boxX boxY boxW boxH freeAtX freeAtY freeW freeH begins ends tried aside ((48 : Int32) + (g_rem i1 (10 : Int32))) r4 er4) [0] [] rfl (by decide) 0 0 rfl rfl rfl rfl hl.1 [] rfl (Nat.le_of_ble_eq_true rfl) ⟨Nat.le_of_ble_eq_true rfl, Nat.le_of_ble_eq_true rfl⟩ ⟨Nat.zero_le _, Nat.zero_le _⟩ dX11_number_25 (wb' := [k_Model g a o pasts length r4.1 told state backX backY boxes frees bestFree bestTurned bestFirst bestSecond v spare past kept isKept text r4.2 left top wide high original turn boxX boxY boxW boxH freeAtX freeAtY freeW freeH begins ends tried aside]) rfl b_e0 1 rfl (by decide) (st2 := []) rfl (fun H locs hw => ?_)
    obtain rfl := Option.some.inj h
    exact b_vret hQ hx hb hr hlk hw rfl dX11_number_28
  refine lv_icmp_le (tgt := 17) hx hb dX11_number_3 (by decide) (fun hc3 => ?_) (fun hc3 => ?_)
  · rw [if_pos hc3] at h
    exact hj17_2 printed paper _ _ _ hw (lv_sub hl [0, 1] rfl) h
  · rw [if_neg hc3] at h
    refine lv_aload_n hx hb dX11_number_6 rfl (lv_at hl 0 rfl) ?_
    refine lv_bipush (v := 48) hx hb dX11_number_7 (by decide) ?_
    refine lv_iload_n hx hb dX11_number_9 rfl (lv_at hl 1 rfl) ?_
    refine lv_bipush (v := 10) hx hb dX11_number_10 (by decide) ?_
    refine lv_idiv hx hb dX11_number_12 (by decide) ?_
    refine lv_iadd hx hb dX11_number_13 ?_
    obtain ⟨r5, er5, h⟩ := g_cl_some h
    refine b_callV hx hb hml hown hT hK hA hw mk_X11_310 (c_X11_sign l D g a o pasts length printed told state backX backY boxes frees bestFree bestTurned bestFirst bestSecond v spare past kept isKept text paper left top wide high original turn boxX boxY boxW boxH freeAtX freeAtY freeW freeH begins ends tried aside ((48 : Int32) + (i1 / (10 : Int32))) r5 er5) [0] [] rfl (by decide) 0 0 rfl rfl rfl rfl hl.1 [] rfl (Nat.le_of_ble_eq_true rfl) ⟨Nat.le_of_ble_eq_true rfl, Nat.le_of_ble_eq_true rfl⟩ ⟨Nat.zero_le _, Nat.zero_le _⟩ dX11_number_14 (wb' := [k_Model g a o pasts length r5.1 told state backX backY boxes frees bestFree bestTurned bestFirst bestSecond v spare past kept isKept text r5.2 left top wide high original turn boxX boxY boxW boxH freeAtX freeAtY freeW freeH begins ends tried aside]) rfl b_e0 1 rfl (by decide) (st2 := []) rfl (fun H locs hw => ?_)
    exact hj17_2 r5.1 r5.2 _ _ _ hw (lv_sub hl [0, 1] rfl) h
