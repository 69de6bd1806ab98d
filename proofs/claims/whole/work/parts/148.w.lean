set_option maxRecDepth 100000 in
set_option maxHeartbeats 4000000 in
theorem c_X11_freesOf (l : Launch) (D : va_G) (g : Nat → ClassId) (a : Nat → Nat) (o : Nat) (pasts : Int32) (length : Int32) (printed : Int32) (told : Int32) (state : Int64) (backX : Int32) (backY : Int32) (boxes : Int32) (frees : Int32) (bestFree : Int32) (bestTurned : Int32) (bestFirst : Int32) (bestSecond : Int32) (v : (Nat → Int32)) (spare : (Nat → Int32)) (past : (Nat → Int32)) (kept : (Nat → Int32)) (isKept : (Nat → Int32)) (text : (Nat → Int32)) (paper : (Nat → Int32)) (left : (Nat → Int32)) (top : (Nat → Int32)) (wide : (Nat → Int32)) (high : (Nat → Int32)) (original : (Nat → Int32)) (turn : (Nat → Int32)) (boxX : (Nat → Int32)) (boxY : (Nat → Int32)) (boxW : (Nat → Int32)) (boxH : (Nat → Int32)) (freeAtX : (Nat → Int32)) (freeAtY : (Nat → Int32)) (freeW : (Nat → Int32)) (freeH : (Nat → Int32)) (begins : (Nat → Int32)) (ends : (Nat → Int32)) (tried : (Nat → Int32)) (aside : (Nat → Int32)) (i1 : Int32) (u : Int32 × Int32 × (Nat → Int32) × (Nat → Int32) × (Nat → Int32) × (Nat → Int32) × (Nat → Int32) × (Nat → Int32) × (Nat → Int32) × (Nat → Int32) × (Nat → Int32) × (Nat → Int32)) (h : f_X11_freesOf v wide high boxX boxY boxW boxH freeAtX freeAtY freeW freeH begins ends i1 = some u) : b_Ct l yX11_freesOf cX11_freesOf 5 none 4 96 D g [.ref (a o), .int i1] [k_Model g a o pasts length printed told state backX backY boxes frees bestFree bestTurned bestFirst bestSecond v spare past kept isKept text paper left top wide high original turn boxX boxY boxW boxH freeAtX freeAtY freeW freeH begins ends tried aside] [k_Model g a o pasts length printed told state backX backY u.1 u.2.1 bestFree bestTurned bestFirst bestSecond v spare past kept isKept text paper left top wide high original turn u.2.2.1 u.2.2.2.1 u.2.2.2.2.1 u.2.2.2.2.2.1 u.2.2.2.2.2.2.1 u.2.2.2.2.2.2.2.1 u.2.2.2.2.2.2.2.2.1 u.2.2.2.2.2.2.2.2.2.1 u.2.2.2.2.2.2.2.2.2.2.1 u.2.2.2.2.2.2.2.2.2.2.2 tried aside] none := by
  refine b_start RX11 (by decide) rfl (Nat.le_of_ble_eq_true rfl) rfl ?_
  intro p e s m args below meth c A ls Q hQ hx hb hr hlk hml hown hT hK hA hw hl
  have hl : lv_has ls 5 [(0, .ref (a o)), (1, .int i1)] := hl
  unfold f_X11_freesOf at h
  refine lv_aload_n hx hb dX11_freesOf_0 rfl (lv_at hl 0 rfl) ?_
  refine lv_iconst (v := 0) hx hb dX11_freesOf_1 (by decide) ?_
  refine b_putf hx hb hT hK hown fl_X11_200 ft_X11 hw 0 0 rfl rfl rfl rfl rfl (Nat.le_of_ble_eq_true rfl) rfl (wb' := [k_Model g a o pasts length printed told state backX backY boxes (0 : Int32) bestFree bestTurned bestFirst bestSecond v spare past kept isKept text paper left top wide high original turn boxX boxY boxW boxH freeAtX freeAtY freeW freeH begins ends tried aside]) rfl dX11_freesOf_2 (fun H locs hw => ?_)
  refine lv_aload_n hx hb dX11_freesOf_5 rfl (lv_at hl 0 rfl) ?_
  refine lv_iload_n hx hb dX11_freesOf_6 rfl (lv_at hl 1 rfl) ?_
  obtain ⟨r1, er1, h⟩ := g_cl_some h
  refine b_callV hx hb hml hown hT hK hA hw mk_X11_213 (c_X11_boxesOf l D g a o pasts length printed told state backX backY boxes (0 : Int32) bestFree bestTurned bestFirst bestSecond v spare past kept isKept text paper left top wide high original turn boxX boxY boxW boxH freeAtX freeAtY freeW freeH begins ends tried aside i1 r1 er1) [0] [] rfl (by decide) 0 0 rfl rfl rfl rfl hl.1 [] rfl (Nat.le_of_ble_eq_true rfl) ⟨Nat.le_of_ble_eq_true rfl, Nat.le_of_ble_eq_true rfl⟩ ⟨Nat.zero_le _, Nat.zero_le _⟩ dX11_freesOf_7 (wb' := [k_Model g a o pasts length printed told state backX backY r1.1 (0 : Int32) bestFree bestTurned bestFirst bestSecond v spare past kept isKept text paper left top wide high original turn r1.2.1 r1.2.2.1 r1.2.2.2.1 r1.2.2.2.2 freeAtX freeAtY freeW freeH begins ends tried aside]) rfl b_e0 1 rfl (by decide) (st2 := []) rfl (fun H locs hw => ?_)
  refine lv_aload_n hx hb dX11_freesOf_10 rfl (lv_at hl 0 rfl) ?_
  obtain ⟨r2, er2, h⟩ := g_cl_some h
  refine b_callV hx hb hml hown hT hK hA hw mk_X11_197 (c_X11_fieldWidth l D g a o pasts length printed told state backX backY r1.1 (0 : Int32) bestFree bestTurned bestFirst bestSecond v spare past kept isKept text paper left top wide high original turn r1.2.1 r1.2.2.1 r1.2.2.2.1 r1.2.2.2.2 freeAtX freeAtY freeW freeH begins ends tried aside r2 er2) [0] [] rfl (by decide) 0 0 rfl rfl rfl rfl hl.1 [] rfl (Nat.le_of_ble_eq_true rfl) ⟨Nat.le_of_ble_eq_true rfl, Nat.le_of_ble_eq_true rfl⟩ ⟨Nat.zero_le _, Nat.zero_le _⟩ dX11_freesOf_11 (wb' := [k_Model g a o pasts length printed told state backX backY r1.1 (0 : Int32) bestFree bestTurned bestFirst bestSecond v spare past kept isKept text paper left top wide high original turn r1.2.1 r1.2.2.1 r1.2.2.2.1 r1.2.2.2.2 freeAtX freeAtY freeW freeH begins ends tried aside]) rfl b_e0 1 rfl (by decide) (st2 := [.int r2]) rfl (fun H locs hw => ?_)
  refine lv_istore_n (lv' := [(2, .int r2), (0, .ref (a o)), (1, .int i1)]) hx hb dX11_freesOf_14 rfl hl (by decide) rfl (fun ls hl => ?_)
  refine lv_iload_n hx hb dX11_freesOf_15 rfl (lv_at hl 0 rfl) ?_
  refine lv_if_le (tgt := 26) hx hb dX11_freesOf_16 (by decide) (fun hc16 => ?_) (fun hc16 => ?_)
  · rw [if_pos hc16] at h
    obtain rfl := Option.some.inj h
    exact b_vret hQ hx hb hr hlk hw rfl dX11_freesOf_26
  · rw [if_neg hc16] at h
    refine lv_aload_n hx hb dX11_freesOf_19 rfl (lv_at hl 1 rfl) ?_
    obtain ⟨r3, er3, h⟩ := g_cl_some h
    refine b_callV hx hb hml hown hT hK hA hw mk_X11_210 (c_X11_fieldHeight l D g a o pasts length printed told state backX backY r1.1 (0 : Int32) bestFree bestTurned bestFirst bestSecond v spare past kept isKept text paper left top wide high original turn r1.2.1 r1.2.2.1 r1.2.2.2.1 r1.2.2.2.2 freeAtX freeAtY freeW freeH begins ends tried aside r3 er3) [0] [] rfl (by decide) 0 0 rfl rfl rfl rfl hl.1 [] rfl (Nat.le_of_ble_eq_true rfl) ⟨Nat.le_of_ble_eq_true rfl, Nat.le_of_ble_eq_true rfl⟩ ⟨Nat.zero_le _, Nat.zero_le _⟩ dX11_freesOf_20 (wb' := [k_Model g a o pasts length printed told state backX backY r1.1 (0 : Int32) bestFree bestTurned bestFirst bestSecond v spare past kept isKept text paper left top wide high original turn r1.2.1 r1.2.2.1 r1.2.2.2.1 r1.2.2.2.2 freeAtX freeAtY freeW freeH begins ends tried aside]) rfl b_e0 1 rfl (by decide) (st2 := [.int r3]) rfl (fun H locs hw => ?_)
    refine lv_if_gt (tgt := 27) hx hb dX11_freesOf_23 (by decide) (fun hc23 => ?_) (fun hc23 => ?_)
    · rw [if_pos hc23] at h
      refine lv_iconst (v := 0) hx hb dX11_freesOf_27 (by decide) ?_
      refine lv_istore_n (lv' := [(3, .int (0 : Int32)), (2, .int r2), (0, .ref (a o)), (1, .int i1)]) hx hb dX11_freesOf_28 rfl hl (by decide) rfl (fun ls hl => ?_)
      obtain ⟨k72_5, ek72_5, h⟩ := g_jn_nm h
      have hk72_5 : ∀ (f4 : Nat → Int32) (f5 : Nat → Int32) (H : Heap) (locs : List Loc) (ls : Array Slot), b_Wd D A s.heap H locs [k_Model g a o pasts length printed told state backX backY r1.1 (0 : Int32) bestFree bestTurned bestFirst bestSecond v spare past kept isKept text paper left top wide high original turn r1.2.1 r1.2.2.1 r1.2.2.2.1 r1.2.2.2.2 freeAtX freeAtY freeW freeH f4 f5 tried aside] → lv_has ls 5 [(0, .ref (a o)), (2, .int r2)] → k72_5 f4 f5 = some u → W p l e (g_rm 4 96) s m args below meth c H locs 0 0 Q (F0 m 72 ls []) := by
        intro f4 f5 H locs ls hw hl h
        subst ek72_5
        dsimp only at h
        refine lv_iconst (v := 0) hx hb dX11_freesOf_72 (by decide) ?_
        refine lv_istore_n (lv' := [(3, .int (0 : Int32)), (0, .ref (a o)), (2, .int r2)]) hx hb dX11_freesOf_73 rfl hl (by decide) rfl (fun ls hl => ?_)
        obtain ⟨k119_8, ek119_8, h⟩ := g_jn_nm h
        have hk119_8 : ∀ (f7 : Nat → Int32) (f8 : Nat → Int32) (H : Heap) (locs : List Loc) (ls : Array Slot), b_Wd D A s.heap H locs [k_Model g a o pasts length printed told state backX backY r1.1 (0 : Int32) bestFree bestTurned bestFirst bestSecond v spare past kept isKept text paper left top wide high original turn r1.2.1 r1.2.2.1 r1.2.2.2.1 r1.2.2.2.2 freeAtX freeAtY freeW freeH f7 f8 tried aside] → lv_has ls 5 [(0, .ref (a o)), (2, .int r2)] → k119_8 f7 f8 = some u → W p l e (g_rm 4 96) s m args below meth c H locs 0 0 Q (F0 m 119 ls []) := by
          intro f7 f8 H locs ls hw hl h
          subst ek119_8
          dsimp only at h
          refine lv_iconst (v := 0) hx hb dX11_freesOf_119 (by decide) ?_
          refine lv_istore_n (lv' := [(3, .int (0 : Int32)), (0, .ref (a o)), (2, .int r2)]) hx hb dX11_freesOf_120 rfl hl (by decide) rfl (fun ls hl => ?_)
          have hL121 : ∀ (n : Nat) (x10 : Int32) (x11 : Int32) (f12 : Nat → Int32) (f13 : Nat → Int32) (f14 : Nat → Int32) (f15 : Nat → Int32) (H : Heap) (locs : List Loc) (ls : Array Slot), b_Wd D A s.heap H locs [k_Model g a o pasts length printed told state backX backY r1.1 x11 bestFree bestTurned bestFirst bestSecond v spare past kept isKept text paper left top wide high original turn r1.2.1 r1.2.2.1 r1.2.2.2.1 r1.2.2.2.2 f12 f13 f14 f15 f7 f8 tried aside] → lv_has ls 5 [(0, .ref (a o)), (2, .int r2), (3, .int x10)] → f_X11_freesOf_L121 v r1 r2 f7 f8 n x10 x11 f12 f13 f14 f15 = some u → W p l e (g_rm 4 96) s m args below meth c H locs 0 0 Q (F0 m 121 ls []) := by
            intro n
            induction n with
            | zero =>
              intro x10 x11 f12 f13 f14 f15 H locs ls hw hl h
              cases (show none = some u from h)
            | succ n ih121 =>
              intro x10 x11 f12 f13 f14 f15 H locs ls hw hl h
              rw [f_X11_freesOf_L121] at h
              refine lv_iload_n hx hb dX11_freesOf_121 rfl (lv_at hl 2 rfl) ?_
              refine lv_iload_n hx hb dX11_freesOf_122 rfl (lv_at hl 1 rfl) ?_
              refine lv_icmp_ge (tgt := 175) hx hb dX11_freesOf_123 (by decide) (fun hc123 => ?_) (fun hc123 => ?_)
              · rw [if_pos hc123] at h
                obtain rfl := Option.some.inj h
                exact b_vret hQ hx hb hr hlk hw rfl dX11_freesOf_175
              · rw [if_neg hc123] at h
                refine lv_iload_n hx hb dX11_freesOf_126 rfl (lv_at hl 2 rfl) ?_
                refine lv_iconst (v := 1) hx hb dX11_freesOf_127 (by decide) ?_
                refine lv_iadd hx hb dX11_freesOf_128 ?_
                obtain ⟨x16, ex16, h⟩ := g_bd_nm h
                refine g_topi ex16 ?_
                refine lv_istore (lv' := [(4, .int x16), (0, .ref (a o)), (2, .int r2), (3, .int x10)]) hx hb dX11_freesOf_129 hl (by decide) rfl (fun ls hl => ?_)
                obtain ⟨k169_21, ek169_21, h⟩ := g_jn_nm h
                have hk169_21 : ∀ (x17 : Int32) (f18 : Nat → Int32) (f19 : Nat → Int32) (f20 : Nat → Int32) (f21 : Nat → Int32) (H : Heap) (locs : List Loc) (ls : Array Slot), b_Wd D A s.heap H locs [k_Model g a o pasts length printed told state backX backY r1.1 x17 bestFree bestTurned bestFirst bestSecond v spare past kept isKept text paper left top wide high original turn r1.2.1 r1.2.2.1 r1.2.2.2.1 r1.2.2.2.2 f18 f19 f20 f21 f7 f8 tried aside] → lv_has ls 5 [(0, .ref (a o)), (2, .int r2), (3, .int x10)] → k169_21 x17 f18 f19 f20 f21 = some u → W p l e (g_rm 4 96) s m args below meth c H locs 0 0 Q (F0 m 169 ls []) := by
                  intro x17 f18 f19 f20 f21 H locs ls hw hl h
                  subst ek169_21
                  dsimp only at h
                  obtain ⟨x23, ex23, h⟩ := g_bd_nm h
                  refine lv_iinc (v := x23) (lv' := [(3, .int x23), (0, .ref (a o)), (2, .int r2)]) hx hb dX11_freesOf_169 hl (k := 2) rfl (by rw [ex23]; rfl) (by decide) rfl (fun ls hl => ?_)
                  refine lv_goto (tgt := 121) hx hb dX11_freesOf_172 (by decide) ?_
                  exact ih121 x23 x17 f18 f19 f20 f21 _ _ _ hw (lv_sub hl [1, 2, 0] rfl) h
                have hL131 : ∀ (n : Nat) (x24 : Int32) (x25 : Int32) (f26 : Nat → Int32) (f27 : Nat → Int32) (f28 : Nat → Int32) (f29 : Nat → Int32) (H : Heap) (locs : List Loc) (ls : Array Slot), b_Wd D A s.heap H locs [k_Model g a o pasts length printed told state backX backY r1.1 x25 bestFree bestTurned bestFirst bestSecond v spare past kept isKept text paper left top wide high original turn r1.2.1 r1.2.2.1 r1.2.2.2.1 r1.2.2.2.2 f26 f27 f28 f29 f7 f8 tried aside] → lv_has ls 5 [(0, .ref (a o)), (2, .int r2), (3, .int x10), (4, .int x24)] → f_X11_freesOf_L131 v r1 r2 f7 f8 x10 k169_21 n x24 x25 f26 f27 f28 f29 = some u → W p l e (g_rm 4 96) s m args below meth c H locs 0 0 Q (F0 m 131 ls []) := by
                  intro n
                  induction n with
                  | zero =>
                    intro x24 x25 f26 f27 f28 f29 H locs ls hw hl h
                    cases (show none = some u from h)
                  | succ n ih131 =>
                    intro x24 x25 f26 f27 f28 f29 H locs ls hw hl h
                    rw [f_X11_freesOf_L131] at h
                    refine lv_iload hx hb dX11_freesOf_131 (lv_at hl 3 rfl) ?_
                    refine lv_iload_n hx hb dX11_freesOf_133 rfl (lv_at hl 1 rfl) ?_
                    refine lv_icmp_gt (tgt := 169) hx hb dX11_freesOf_134 (by decide) (fun hc134 => ?_) (fun hc134 => ?_)
                    · rw [if_pos hc134] at h
                      exact hk169_21 x25 f26 f27 f28 f29 _ _ _ hw (lv_sub hl [0, 1, 2] rfl) h
                    · rw [if_neg hc134] at h
                      refine lv_aload_n hx hb dX11_freesOf_137 rfl (lv_at hl 0 rfl) ?_
                      refine b_get hx hb hT hK hown fl_X11_74 hw 0 0 rfl rfl (v := .ref (a (o+22))) rfl dX11_freesOf_138 ?_
                      refine lv_iload_n hx hb dX11_freesOf_141 rfl (lv_at hl 2 rfl) ?_
                      obtain ⟨x30, ex30, hix30, h⟩ := g_rd_some h
                      refine b_zald hx hb hK hw 0 22 rfl (f := f7) rfl hix30 ex30 dX11_freesOf_142 ?_
                      refine lv_if_eq (tgt := 169) hx hb dX11_freesOf_143 (by decide) (fun hc143 => ?_) (fun hc143 => ?_)
                      · rw [if_pos hc143] at h
                        exact hk169_21 x25 f26 f27 f28 f29 _ _ _ hw (lv_sub hl [0, 1, 2] rfl) h
                      · rw [if_neg hc143] at h
                        refine lv_aload_n hx hb dX11_freesOf_146 rfl (lv_at hl 0 rfl) ?_
                        refine b_get hx hb hT hK hown fl_X11_77 hw 0 0 rfl rfl (v := .ref (a (o+23))) rfl dX11_freesOf_147 ?_
                        refine lv_iload hx hb dX11_freesOf_150 (lv_at hl 3 rfl) ?_
                        obtain ⟨x31, ex31, hix31, h⟩ := g_rd_some h
                        refine b_zald hx hb hK hw 0 23 rfl (f := f8) rfl hix31 ex31 dX11_freesOf_152 ?_
                        obtain ⟨j163_36, ej163_36, h⟩ := g_jn_nm h
                        have hj163_36 : ∀ (x32 : Int32) (f33 : Nat → Int32) (f34 : Nat → Int32) (f35 : Nat → Int32) (f36 : Nat → Int32) (H : Heap) (locs : List Loc) (ls : Array Slot), b_Wd D A s.heap H locs [k_Model g a o pasts length printed told state backX backY r1.1 x32 bestFree bestTurned bestFirst bestSecond v spare past kept isKept text paper left top wide high original turn r1.2.1 r1.2.2.1 r1.2.2.2.1 r1.2.2.2.2 f33 f34 f35 f36 f7 f8 tried aside] → lv_has ls 5 [(0, .ref (a o)), (2, .int r2), (3, .int x10), (4, .int x24)] → j163_36 x32 f33 f34 f35 f36 = some u → W p l e (g_rm 4 96) s m args below meth c H locs 0 0 Q (F0 m 163 ls []) := by
                          intro x32 f33 f34 f35 f36 H locs ls hw hl h
                          subst ej163_36
                          dsimp only at h
                          obtain ⟨x38, ex38, h⟩ := g_bd_nm h
                          refine lv_iinc (v := x38) (lv' := [(4, .int x38), (0, .ref (a o)), (2, .int r2), (3, .int x10)]) hx hb dX11_freesOf_163 hl (k := 3) rfl (by rw [ex38]; rfl) (by decide) rfl (fun ls hl => ?_)
                          refine lv_goto (tgt := 131) hx hb dX11_freesOf_166 (by decide) ?_
                          exact ih131 x38 x32 f33 f34 f35 f36 _ _ _ hw (lv_sub hl [1, 2, 3, 0] rfl) h
                        refine lv_if_eq (tgt := 163) hx hb dX11_freesOf_153 (by decide) (fun hc153 => ?_) (fun hc153 => ?_)
                        · rw [if_pos hc153] at h
                          exact hj163_36 x25 f26 f27 f28 f29 _ _ _ hw (lv_sub hl [0, 1, 2, 3] rfl) h
                        · rw [if_neg hc153] at h
                          refine lv_aload_n hx hb dX11_freesOf_156 rfl (lv_at hl 0 rfl) ?_
                          refine lv_iload_n hx hb dX11_freesOf_157 rfl (lv_at hl 2 rfl) ?_
                          refine lv_iload hx hb dX11_freesOf_158 (lv_at hl 3 rfl) ?_
                          obtain ⟨r39, er39, h⟩ := g_cl_some h
                          refine b_callV hx hb hml hown hT hK hA hw mk_X11_216 (c_X11_between l D g a o pasts length printed told state backX backY r1.1 x25 bestFree bestTurned bestFirst bestSecond v spare past kept isKept text paper left top wide high original turn r1.2.1 r1.2.2.1 r1.2.2.2.1 r1.2.2.2.2 f26 f27 f28 f29 f7 f8 tried aside x10 x24 r39 er39) [0] [] rfl (by decide) 0 0 rfl rfl rfl rfl hl.1 [] rfl (Nat.le_of_ble_eq_true rfl) ⟨Nat.le_of_ble_eq_true rfl, Nat.le_of_ble_eq_true rfl⟩ ⟨Nat.zero_le _, Nat.zero_le _⟩ dX11_freesOf_160 (wb' := [k_Model g a o pasts length printed told state backX backY r1.1 r39.1 bestFree bestTurned bestFirst bestSecond v spare past kept isKept text paper left top wide high original turn r1.2.1 r1.2.2.1 r1.2.2.2.1 r1.2.2.2.2 r39.2.1 r39.2.2.1 r39.2.2.2.1 r39.2.2.2.2 f7 f8 tried aside]) rfl b_e0 1 rfl (by decide) (st2 := []) rfl (fun H locs hw => ?_)
                          exact hj163_36 r39.1 r39.2.1 r39.2.2.1 r39.2.2.2.1 r39.2.2.2.2 _ _ _ hw (lv_sub hl [0, 1, 2, 3] rfl) h
                exact hL131 g_fuel x16 x11 f12 f13 f14 f15 _ _ _ hw (lv_sub hl [1, 2, 3, 0] rfl) h
          exact hL121 g_fuel (0 : Int32) (0 : Int32) freeAtX freeAtY freeW freeH _ _ _ hw (lv_sub hl [1, 2, 0] rfl) h
        have hL74 : ∀ (n : Nat) (x40 : Int32) (f41 : Nat → Int32) (f42 : Nat → Int32) (H : Heap) (locs : List Loc) (ls : Array Slot), b_Wd D A s.heap H locs [k_Model g a o pasts length printed told state backX backY r1.1 (0 : Int32) bestFree bestTurned bestFirst bestSecond v spare past kept isKept text paper left top wide high original turn r1.2.1 r1.2.2.1 r1.2.2.2.1 r1.2.2.2.2 freeAtX freeAtY freeW freeH f41 f42 tried aside] → lv_has ls 5 [(0, .ref (a o)), (2, .int r2), (3, .int x40)] → f_X11_freesOf_L74 r1 k119_8 n x40 f41 f42 = some u → W p l e (g_rm 4 96) s m args below meth c H locs 0 0 Q (F0 m 74 ls []) := by
          intro n
          induction n with
          | zero =>
            intro x40 f41 f42 H locs ls hw hl h
            cases (show none = some u from h)
          | succ n ih74 =>
            intro x40 f41 f42 H locs ls hw hl h
            rw [f_X11_freesOf_L74] at h
            refine lv_iload_n hx hb dX11_freesOf_74 rfl (lv_at hl 2 rfl) ?_
            refine lv_aload_n hx hb dX11_freesOf_75 rfl (lv_at hl 0 rfl) ?_
            refine b_get hx hb hT hK hown fl_X11_185 hw 0 0 rfl rfl (v := .int r1.1) rfl dX11_freesOf_76 ?_
            refine lv_icmp_ge (tgt := 119) hx hb dX11_freesOf_79 (by decide) (fun hc79 => ?_) (fun hc79 => ?_)
            · rw [if_pos hc79] at h
              exact hk119_8 f41 f42 _ _ _ hw (lv_sub hl [0, 1] rfl) h
            · rw [if_neg hc79] at h
              refine lv_aload_n hx hb dX11_freesOf_82 rfl (lv_at hl 0 rfl) ?_
              refine b_get hx hb hT hK hown fl_X11_74 hw 0 0 rfl rfl (v := .ref (a (o+22))) rfl dX11_freesOf_83 ?_
              refine lv_aload_n hx hb dX11_freesOf_86 rfl (lv_at hl 0 rfl) ?_
              refine b_get hx hb hT hK hown fl_X11_50 hw 0 0 rfl rfl (v := .ref (a (o+14))) rfl dX11_freesOf_87 ?_
              refine lv_iload_n hx hb dX11_freesOf_90 rfl (lv_at hl 2 rfl) ?_
              obtain ⟨x43, ex43, hix43, h⟩ := g_rd_some h
              refine b_iald hx hb hK hw 0 14 rfl (f := r1.2.1) rfl hix43 ex43 dX11_freesOf_91 ?_
              refine lv_aload_n hx hb dX11_freesOf_92 rfl (lv_at hl 0 rfl) ?_
              refine b_get hx hb hT hK hown fl_X11_56 hw 0 0 rfl rfl (v := .ref (a (o+16))) rfl dX11_freesOf_93 ?_
              refine lv_iload_n hx hb dX11_freesOf_96 rfl (lv_at hl 2 rfl) ?_
              obtain ⟨x44, ex44, hix44, h⟩ := g_rd_some h
              refine b_iald hx hb hK hw 0 16 rfl (f := r1.2.2.2.1) rfl hix44 ex44 dX11_freesOf_97 ?_
              refine lv_iadd hx hb dX11_freesOf_98 ?_
              refine lv_iconst (v := 1) hx hb dX11_freesOf_99 (by decide) ?_
              obtain ⟨f45, ef45, hif45, h⟩ := g_wrZ_some h
              refine b_zast hx hb hK hw 0 22 rfl (f := f41) rfl hif45 ef45 rfl (wb' := [k_Model g a o pasts length printed told state backX backY r1.1 (0 : Int32) bestFree bestTurned bestFirst bestSecond v spare past kept isKept text paper left top wide high original turn r1.2.1 r1.2.2.1 r1.2.2.2.1 r1.2.2.2.2 freeAtX freeAtY freeW freeH f45 f42 tried aside]) rfl dX11_freesOf_100 (fun H locs hw => ?_)
              refine lv_aload_n hx hb dX11_freesOf_101 rfl (lv_at hl 0 rfl) ?_
              refine b_get hx hb hT hK hown fl_X11_77 hw 0 0 rfl rfl (v := .ref (a (o+23))) rfl dX11_freesOf_102 ?_
              refine lv_aload_n hx hb dX11_freesOf_105 rfl (lv_at hl 0 rfl) ?_
              refine b_get hx hb hT hK hown fl_X11_50 hw 0 0 rfl rfl (v := .ref (a (o+14))) rfl dX11_freesOf_106 ?_
              refine lv_iload_n hx hb dX11_freesOf_109 rfl (lv_at hl 2 rfl) ?_
              obtain ⟨x46, ex46, hix46, h⟩ := g_rd_some h
              refine b_iald hx hb hK hw 0 14 rfl (f := r1.2.1) rfl hix46 ex46 dX11_freesOf_110 ?_
              refine lv_iconst (v := 1) hx hb dX11_freesOf_111 (by decide) ?_
              obtain ⟨f47, ef47, hif47, h⟩ := g_wrZ_some h
              refine b_zast hx hb hK hw 0 23 rfl (f := f42) rfl hif47 ef47 rfl (wb' := [k_Model g a o pasts length printed told state backX backY r1.1 (0 : Int32) bestFree bestTurned bestFirst bestSecond v spare past kept isKept text paper left top wide high original turn r1.2.1 r1.2.2.1 r1.2.2.2.1 r1.2.2.2.2 freeAtX freeAtY freeW freeH f45 f47 tried aside]) rfl dX11_freesOf_112 (fun H locs hw => ?_)
              obtain ⟨x48, ex48, h⟩ := g_bd_nm h
              refine lv_iinc (v := x48) (lv' := [(3, .int x48), (0, .ref (a o)), (2, .int r2)]) hx hb dX11_freesOf_113 hl (k := 2) rfl (by rw [ex48]; rfl) (by decide) rfl (fun ls hl => ?_)
              refine lv_goto (tgt := 74) hx hb dX11_freesOf_116 (by decide) ?_
              exact ih74 x48 f45 f47 _ _ _ hw (lv_sub hl [1, 2, 0] rfl) h
        exact hL74 g_fuel (0 : Int32) f4 f5 _ _ _ hw (lv_sub hl [1, 2, 0] rfl) h
      have hL29 : ∀ (n : Nat) (x49 : Int32) (f50 : Nat → Int32) (f51 : Nat → Int32) (H : Heap) (locs : List Loc) (ls : Array Slot), b_Wd D A s.heap H locs [k_Model g a o pasts length printed told state backX backY r1.1 (0 : Int32) bestFree bestTurned bestFirst bestSecond v spare past kept isKept text paper left top wide high original turn r1.2.1 r1.2.2.1 r1.2.2.2.1 r1.2.2.2.2 freeAtX freeAtY freeW freeH f50 f51 tried aside] → lv_has ls 5 [(0, .ref (a o)), (2, .int r2), (3, .int x49)] → f_X11_freesOf_L29 r2 k72_5 n x49 f50 f51 = some u → W p l e (g_rm 4 96) s m args below meth c H locs 0 0 Q (F0 m 29 ls []) := by
        intro n
        induction n with
        | zero =>
          intro x49 f50 f51 H locs ls hw hl h
          cases (show none = some u from h)
        | succ n ih29 =>
          intro x49 f50 f51 H locs ls hw hl h
          rw [f_X11_freesOf_L29] at h
          refine lv_iload_n hx hb dX11_freesOf_29 rfl (lv_at hl 2 rfl) ?_
          refine lv_bipush (v := 40) hx hb dX11_freesOf_30 (by decide) ?_
          refine lv_icmp_ge (tgt := 72) hx hb dX11_freesOf_32 (by decide) (fun hc32 => ?_) (fun hc32 => ?_)
          · rw [if_pos hc32] at h
            exact hk72_5 f50 f51 _ _ _ hw (lv_sub hl [0, 1] rfl) h
          · rw [if_neg hc32] at h
            refine lv_aload_n hx hb dX11_freesOf_35 rfl (lv_at hl 0 rfl) ?_
            refine b_get hx hb hT hK hown fl_X11_74 hw 0 0 rfl rfl (v := .ref (a (o+22))) rfl dX11_freesOf_36 ?_
            refine lv_iload_n hx hb dX11_freesOf_39 rfl (lv_at hl 2 rfl) ?_
            refine lv_iload_n hx hb dX11_freesOf_40 rfl (lv_at hl 2 rfl) ?_
            obtain ⟨j49_52, ej49_52, h⟩ := g_bd_k h
            have hj49_52 : ∀ (x52 : Int32) (H : Heap) (locs : List Loc) (ls : Array Slot), b_Wd D A s.heap H locs [k_Model g a o pasts length printed told state backX backY r1.1 (0 : Int32) bestFree bestTurned bestFirst bestSecond v spare past kept isKept text paper left top wide high original turn r1.2.1 r1.2.2.1 r1.2.2.2.1 r1.2.2.2.2 freeAtX freeAtY freeW freeH f50 f51 tried aside] → lv_has ls 5 [(0, .ref (a o)), (2, .int r2), (3, .int x49)] → j49_52 x52 = some u → W p l e (g_rm 4 96) s m args below meth c H locs 0 0 Q (F0 m 49 ls [.int x52, .int x49, .ref (a (o+22))]) := by
              intro x52 H locs ls hw hl h
              subst ej49_52
              dsimp only at h
              obtain ⟨f53, ef53, hif53, h⟩ := g_wrZ_some h
              refine b_zast hx hb hK hw 0 22 rfl (f := f50) rfl hif53 ef53 rfl (wb' := [k_Model g a o pasts length printed told state backX backY r1.1 (0 : Int32) bestFree bestTurned bestFirst bestSecond v spare past kept isKept text paper left top wide high original turn r1.2.1 r1.2.2.1 r1.2.2.2.1 r1.2.2.2.2 freeAtX freeAtY freeW freeH f53 f51 tried aside]) rfl dX11_freesOf_49 (fun H locs hw => ?_)
              refine lv_aload_n hx hb dX11_freesOf_50 rfl (lv_at hl 0 rfl) ?_
              refine b_get hx hb hT hK hown fl_X11_77 hw 0 0 rfl rfl (v := .ref (a (o+23))) rfl dX11_freesOf_51 ?_
              refine lv_iload_n hx hb dX11_freesOf_54 rfl (lv_at hl 2 rfl) ?_
              refine lv_iload_n hx hb dX11_freesOf_55 rfl (lv_at hl 2 rfl) ?_
              refine lv_iload_n hx hb dX11_freesOf_56 rfl (lv_at hl 1 rfl) ?_
              obtain ⟨j65_54, ej65_54, h⟩ := g_bd_k h
              have hj65_54 : ∀ (x54 : Int32) (H : Heap) (locs : List Loc) (ls : Array Slot), b_Wd D A s.heap H locs [k_Model g a o pasts length printed told state backX backY r1.1 (0 : Int32) bestFree bestTurned bestFirst bestSecond v spare past kept isKept text paper left top wide high original turn r1.2.1 r1.2.2.1 r1.2.2.2.1 r1.2.2.2.2 freeAtX freeAtY freeW freeH f53 f51 tried aside] → lv_has ls 5 [(0, .ref (a o)), (2, .int r2), (3, .int x49)] → j65_54 x54 = some u → W p l e (g_rm 4 96) s m args below meth c H locs 0 0 Q (F0 m 65 ls [.int x54, .int x49, .ref (a (o+23))]) := by
                intro x54 H locs ls hw hl h
                subst ej65_54
                dsimp only at h
                obtain ⟨f55, ef55, hif55, h⟩ := g_wrZ_some h
                refine b_zast hx hb hK hw 0 23 rfl (f := f51) rfl hif55 ef55 rfl (wb' := [k_Model g a o pasts length printed told state backX backY r1.1 (0 : Int32) bestFree bestTurned bestFirst bestSecond v spare past kept isKept text paper left top wide high original turn r1.2.1 r1.2.2.1 r1.2.2.2.1 r1.2.2.2.2 freeAtX freeAtY freeW freeH f53 f55 tried aside]) rfl dX11_freesOf_65 (fun H locs hw => ?_)
                obtain ⟨x56, ex56, h⟩ := g_bd_nm h
                refine lv_iinc (v := x56) (lv' := [(3, .int x56), (0, .ref (a o)), (2, .int r2)]) hx hb dX11_freesOf_66 hl (k := 2) rfl (by rw [ex56]; rfl) (by decide) rfl (fun ls hl => ?_)
                refine lv_goto (tgt := 29) hx hb dX11_freesOf_69 (by decide) ?_
                exact ih29 x56 f53 f55 _ _ _ hw (lv_sub hl [1, 2, 0] rfl) h
              refine lv_icmp_ne (tgt := 64) hx hb dX11_freesOf_57 (by decide) (fun hc57 => ?_) (fun hc57 => ?_)
              · rw [if_neg hc57] at h
                refine lv_iconst (v := 0) hx hb dX11_freesOf_64 (by decide) ?_
                exact hj65_54 (0 : Int32) _ _ _ hw (lv_sub hl [0, 1, 2] rfl) h
              · rw [if_pos hc57] at h
                refine lv_iconst (v := 1) hx hb dX11_freesOf_60 (by decide) ?_
                refine lv_goto (tgt := 65) hx hb dX11_freesOf_61 (by decide) ?_
                exact hj65_54 (1 : Int32) _ _ _ hw (lv_sub hl [0, 1, 2] rfl) h
            refine lv_if_ne (tgt := 48) hx hb dX11_freesOf_41 (by decide) (fun hc41 => ?_) (fun hc41 => ?_)
            · rw [if_neg hc41] at h
              refine lv_iconst (v := 0) hx hb dX11_freesOf_48 (by decide) ?_
              exact hj49_52 (0 : Int32) _ _ _ hw (lv_sub hl [0, 1, 2] rfl) h
            · rw [if_pos hc41] at h
              refine lv_iconst (v := 1) hx hb dX11_freesOf_44 (by decide) ?_
              refine lv_goto (tgt := 49) hx hb dX11_freesOf_45 (by decide) ?_
              exact hj49_52 (1 : Int32) _ _ _ hw (lv_sub hl [0, 1, 2] rfl) h
      exact hL29 g_fuel (0 : Int32) begins ends _ _ _ hw (lv_sub hl [2, 1, 0] rfl) h
    · rw [if_neg hc23] at h
      obtain rfl := Option.some.inj h
      exact b_vret hQ hx hb hr hlk hw rfl dX11_freesOf_26
set_option maxRecDepth 100000 in
set_option maxHeartbeats 4000000 in
theorem c_X11_fits (l : Launch) (D : va_G) (g : Nat → ClassId) (a : Nat → Nat) (o : Nat) (pasts : Int32) (length : Int32) (printed : Int32) (told : Int32) (state : Int64) (backX : Int32) (backY : Int32) (boxes : Int32) (frees : Int32) (bestFree : Int32) (bestTurned : Int32) (bestFirst : Int32) (bestSecond : Int32) (v : (Nat → Int32)) (spare : (Nat → Int32)) (past : (Nat → Int32)) (kept : (Nat → Int32)) (isKept : (Nat → Int32)) (text : (Nat → Int32)) (paper : (Nat → Int32)) (left : (Nat → Int32)) (top : (Nat → Int32)) (wide : (Nat → Int32)) (high : (Nat → Int32)) (original : (Nat → Int32)) (turn : (Nat → Int32)) (boxX : (Nat → Int32)) (boxY : (Nat → Int32)) (boxW : (Nat → Int32)) (boxH : (Nat → Int32)) (freeAtX : (Nat → Int32)) (freeAtY : (Nat → Int32)) (freeW : (Nat → Int32)) (freeH : (Nat → Int32)) (begins : (Nat → Int32)) (ends : (Nat → Int32)) (tried : (Nat → Int32)) (aside : (Nat → Int32)) (i1 : Int32) (i2 : Int32) (i3 : Int32) (u : Int32) (h : f_X11_fits freeW freeH i1 i2 i3 = some u) : b_Ct l yX11_fits cX11_fits 4 (some .boolean) 0 0 D g [.ref (a o), .int i1, .int i2, .int i3] [k_Model g a o pasts length printed told state backX backY boxes frees bestFree bestTurned bestFirst bestSecond v spare past kept isKept text paper left top wide high original turn boxX boxY boxW boxH freeAtX freeAtY freeW freeH begins ends tried aside] [k_Model g a o pasts length printed told state backX backY boxes frees bestFree bestTurned bestFirst bestSecond v spare past kept isKept text paper left top wide high original turn boxX boxY boxW boxH freeAtX freeAtY freeW freeH begins ends tried aside] (some (.int u)) := by
  refine b_start RX11 (by decide) rfl (Nat.le_of_ble_eq_true rfl) rfl ?_
  intro p e s m args below meth c A ls Q hQ hx hb hr hlk hml hown hT hK hA hw hl
  have hl : lv_has ls 4 [(0, .ref (a o)), (1, .int i1), (2, .int i2), (3, .int i3)] := hl
  unfold f_X11_fits at h
  refine lv_iload_n hx hb dX11_fits_0 rfl (lv_at hl 2 rfl) ?_
  refine lv_aload_n hx hb dX11_fits_1 rfl (lv_at hl 0 rfl) ?_
  refine b_get hx hb hT hK hown fl_X11_68 hw 0 0 rfl rfl (v := .ref (a (o+20))) rfl dX11_fits_2 ?_
  refine lv_iload_n hx hb dX11_fits_5 rfl (lv_at hl 1 rfl) ?_
  obtain ⟨x1, ex1, hix1, h⟩ := g_rd_some h
  refine b_iald hx hb hK hw 0 20 rfl (f := freeW) rfl hix1 ex1 dX11_fits_6 ?_
  refine lv_icmp_gt (tgt := 24) hx hb dX11_fits_7 (by decide) (fun hc7 => ?_) (fun hc7 => ?_)
  · rw [if_pos hc7] at h
    refine lv_iconst (v := 0) hx hb dX11_fits_24 (by decide) ?_
    obtain rfl := Option.some.inj h
    exact b_zret hQ hx hb hr hlk (Or.inl rfl) hw rfl dX11_fits_25
  · rw [if_neg hc7] at h
    refine lv_iload_n hx hb dX11_fits_10 rfl (lv_at hl 3 rfl) ?_
    refine lv_aload_n hx hb dX11_fits_11 rfl (lv_at hl 0 rfl) ?_
    refine b_get hx hb hT hK hown fl_X11_71 hw 0 0 rfl rfl (v := .ref (a (o+21))) rfl dX11_fits_12 ?_
    refine lv_iload_n hx hb dX11_fits_15 rfl (lv_at hl 1 rfl) ?_
    obtain ⟨x2, ex2, hix2, h⟩ := g_rd_some h
    refine b_iald hx hb hK hw 0 21 rfl (f := freeH) rfl hix2 ex2 dX11_fits_16 ?_
    refine lv_icmp_gt (tgt := 24) hx hb dX11_fits_17 (by decide) (fun hc17 => ?_) (fun hc17 => ?_)
    · rw [if_pos hc17] at h
      refine lv_iconst (v := 0) hx hb dX11_fits_24 (by decide) ?_
      obtain rfl := Option.some.inj h
      exact b_zret hQ hx hb hr hlk (Or.inl rfl) hw rfl dX11_fits_25
    · rw [if_neg hc17] at h
      refine lv_iconst (v := 1) hx hb dX11_fits_20 (by decide) ?_
      refine lv_goto (tgt := 25) hx hb dX11_fits_21 (by decide) ?_
      obtain rfl := Option.some.inj h
      exact b_zret hQ hx hb hr hlk (Or.inr rfl) hw rfl dX11_fits_25
set_option maxRecDepth 100000 in
set_option maxHeartbeats 4000000 in
theorem c_X11_values (l : Launch) (D : va_G) (g : Nat → ClassId) (a : Nat → Nat) (o : Nat) (pasts : Int32) (length : Int32) (printed : Int32) (told : Int32) (state : Int64) (backX : Int32) (backY : Int32) (boxes : Int32) (frees : Int32) (bestFree : Int32) (bestTurned : Int32) (bestFirst : Int32) (bestSecond : Int32) (v : (Nat → Int32)) (spare : (Nat → Int32)) (past : (Nat → Int32)) (kept : (Nat → Int32)) (isKept : (Nat → Int32)) (text : (Nat → Int32)) (paper : (Nat → Int32)) (left : (Nat → Int32)) (top : (Nat → Int32)) (wide : (Nat → Int32)) (high : (Nat → Int32)) (original : (Nat → Int32)) (turn : (Nat → Int32)) (boxX : (Nat → Int32)) (boxY : (Nat → Int32)) (boxW : (Nat → Int32)) (boxH : (Nat → Int32)) (freeAtX : (Nat → Int32)) (freeAtY : (Nat → Int32)) (freeW : (Nat → Int32)) (freeH : (Nat → Int32)) (begins : (Nat → Int32)) (ends : (Nat → Int32)) (tried : (Nat → Int32)) (aside : (Nat → Int32)) (i1 : Int32) (i2 : Int32) (i3 : Int32) (u : Int32 × Int32 × Int32 × Int32) (h : f_X11_values bestFree bestTurned bestFirst bestSecond v wide high freeAtX freeAtY freeW freeH i1 i2 i3 = some u) : b_Ct l yX11_values cX11_values 12 none 2 44 D g [.ref (a o), .int i1, .int i2, .int i3] [k_Model g a o pasts length printed told state backX backY boxes frees bestFree bestTurned bestFirst bestSecond v spare past kept isKept text paper left top wide high original turn boxX boxY boxW boxH freeAtX freeAtY freeW freeH begins ends tried aside] [k_Model g a o pasts length printed told state backX backY boxes frees u.1 u.2.1 u.2.2.1 u.2.2.2 v spare past kept isKept text paper left top wide high original turn boxX boxY boxW boxH freeAtX freeAtY freeW freeH begins ends tried aside] none := by
  refine b_start RX11 (by decide) rfl (Nat.le_of_ble_eq_true rfl) rfl ?_
  intro p e s m args below meth c A ls Q hQ hx hb hr hlk hml hown hT hK hA hw hl
  have hl : lv_has ls 12 [(0, .ref (a o)), (1, .int i1), (2, .int i2), (3, .int i3)] := hl
  unfold f_X11_values at h
  refine lv_aload_n hx hb dX11_values_0 rfl (lv_at hl 0 rfl) ?_
  refine lv_iload_n hx hb dX11_values_1 rfl (lv_at hl 2 rfl) ?_
  refine lv_iload_n hx hb dX11_values_2 rfl (lv_at hl 3 rfl) ?_
  obtain ⟨r1, er1, h⟩ := g_cl_some h
  refine b_callV hx hb hml hown hT hK hA hw mk_X11_188 (c_X11_boxWidth l D g a o pasts length printed told state backX backY boxes frees bestFree bestTurned bestFirst bestSecond v spare past kept isKept text paper left top wide high original turn boxX boxY boxW boxH freeAtX freeAtY freeW freeH begins ends tried aside i2 i3 r1 er1) [0] [] rfl (by decide) 0 0 rfl rfl rfl rfl hl.1 [] rfl (Nat.le_of_ble_eq_true rfl) ⟨Nat.le_of_ble_eq_true rfl, Nat.le_of_ble_eq_true rfl⟩ ⟨Nat.zero_le _, Nat.zero_le _⟩ dX11_values_3 (wb' := [k_Model g a o pasts length printed told state backX backY boxes frees bestFree bestTurned bestFirst bestSecond v spare past kept isKept text paper left top wide high original turn boxX boxY boxW boxH freeAtX freeAtY freeW freeH begins ends tried aside]) rfl b_e0 1 rfl (by decide) (st2 := [.int r1]) rfl (fun H locs hw => ?_)
  refine lv_istore (lv' := [(4, .int r1), (0, .ref (a o)), (1, .int i1), (2, .int i2), (3, .int i3)]) hx hb dX11_values_6 hl (by decide) rfl (fun ls hl => ?_)
  refine lv_aload_n hx hb dX11_values_8 rfl (lv_at hl 1 rfl) ?_
  refine lv_iload_n hx hb dX11_values_9 rfl (lv_at hl 3 rfl) ?_
  refine lv_iload_n hx hb dX11_values_10 rfl (lv_at hl 4 rfl) ?_
  obtain ⟨r2, er2, h⟩ := g_cl_some h
  refine b_callV hx hb hml hown hT hK hA hw mk_X11_191 (c_X11_boxHeight l D g a o pasts length printed told state backX backY boxes frees bestFree bestTurned bestFirst bestSecond v spare past kept isKept text paper left top wide high original turn boxX boxY boxW boxH freeAtX freeAtY freeW freeH begins ends tried aside i2 i3 r2 er2) [0] [] rfl (by decide) 0 0 rfl rfl rfl rfl hl.1 [] rfl (Nat.le_of_ble_eq_true rfl) ⟨Nat.le_of_ble_eq_true rfl, Nat.le_of_ble_eq_true rfl⟩ ⟨Nat.zero_le _, Nat.zero_le _⟩ dX11_values_11 (wb' := [k_Model g a o pasts length printed told state backX backY boxes frees bestFree bestTurned bestFirst bestSecond v spare past kept isKept text paper left top wide high original turn boxX boxY boxW boxH freeAtX freeAtY freeW freeH begins ends tried aside]) rfl b_e0 1 rfl (by decide) (st2 := [.int r2]) rfl (fun H locs hw => ?_)
  refine lv_istore (lv' := [(5, .int r2), (4, .int r1), (0, .ref (a o)), (1, .int i1), (2, .int i2), (3, .int i3)]) hx hb dX11_values_14 hl (by decide) rfl (fun ls hl => ?_)
  refine lv_aload_n hx hb dX11_values_16 rfl (lv_at hl 2 rfl) ?_
  refine lv_iload_n hx hb dX11_values_17 rfl (lv_at hl 3 rfl) ?_
  refine lv_iload hx hb dX11_values_18 (lv_at hl 1 rfl) ?_
  refine lv_iload hx hb dX11_values_20 (lv_at hl 0 rfl) ?_
  obtain ⟨r3, er3, h⟩ := g_cl_some h
  refine b_callV hx hb hml hown hT hK hA hw mk_X11_219 (c_X11_fits l D g a o pasts length printed told state backX backY boxes frees bestFree bestTurned bestFirst bestSecond v spare past kept isKept text paper left top wide high original turn boxX boxY boxW boxH freeAtX freeAtY freeW freeH begins ends tried aside i1 r1 r2 r3 er3) [0] [] rfl (by decide) 0 0 rfl rfl rfl rfl hl.1 [] rfl (Nat.le_of_ble_eq_true rfl) ⟨Nat.le_of_ble_eq_true rfl, Nat.le_of_ble_eq_true rfl⟩ ⟨Nat.zero_le _, Nat.zero_le _⟩ dX11_values_22 (wb' := [k_Model g a o pasts length printed told state backX backY boxes frees bestFree bestTurned bestFirst bestSecond v spare past kept isKept text paper left top wide high original turn boxX boxY boxW boxH freeAtX freeAtY freeW freeH begins ends tried aside]) rfl b_e0 1 rfl (by decide) (st2 := [.int r3]) rfl (fun H locs hw => ?_)
  refine lv_if_ne (tgt := 29) hx hb dX11_values_25 (by decide) (fun hc25 => ?_) (fun hc25 => ?_)
  · rw [if_neg hc25] at h
    refine lv_aload_n hx hb dX11_values_29 rfl (lv_at hl 2 rfl) ?_
    refine b_get hx hb hT hK hown fl_X11_68 hw 0 0 rfl rfl (v := .ref (a (o+20))) rfl dX11_values_30 ?_
    refine lv_iload_n hx hb dX11_values_33 rfl (lv_at hl 3 rfl) ?_
    obtain ⟨x4, ex4, hix4, h⟩ := g_rd_some h
    refine b_iald hx hb hK hw 0 20 rfl (f := freeW) rfl hix4 ex4 dX11_values_34 ?_
    refine lv_iload hx hb dX11_values_35 (lv_at hl 1 rfl) ?_
    refine lv_isub hx hb dX11_values_37 ?_
    obtain ⟨x5, ex5, h⟩ := g_bd_nm h
    refine g_topi ex5 ?_
    refine lv_istore (lv' := [(6, .int x5), (5, .int r2), (4, .int r1), (0, .ref (a o)), (1, .int i1), (2, .int i2), (3, .int i3)]) hx hb dX11_values_38 hl (by decide) rfl (fun ls hl => ?_)
    refine lv_aload_n hx hb dX11_values_40 rfl (lv_at hl 3 rfl) ?_
    refine b_get hx hb hT hK hown fl_X11_71 hw 0 0 rfl rfl (v := .ref (a (o+21))) rfl dX11_values_41 ?_
    refine lv_iload_n hx hb dX11_values_44 rfl (lv_at hl 4 rfl) ?_
    obtain ⟨x6, ex6, hix6, h⟩ := g_rd_some h
    refine b_iald hx hb hK hw 0 21 rfl (f := freeH) rfl hix6 ex6 dX11_values_45 ?_
    refine lv_iload hx hb dX11_values_46 (lv_at hl 1 rfl) ?_
    refine lv_isub hx hb dX11_values_48 ?_
    obtain ⟨x7, ex7, h⟩ := g_bd_nm h
    refine g_topi ex7 ?_
    refine lv_istore (lv' := [(7, .int x7), (6, .int x5), (5, .int r2), (4, .int r1), (0, .ref (a o)), (1, .int i1), (2, .int i2), (3, .int i3)]) hx hb dX11_values_49 hl (by decide) rfl (fun ls hl => ?_)
    refine lv_iload hx hb dX11_values_51 (lv_at hl 1 rfl) ?_
    refine lv_iload hx hb dX11_values_53 (lv_at hl 0 rfl) ?_
    obtain ⟨j65_8, ej65_8, h⟩ := g_bd_k h
    have hj65_8 : ∀ (x8 : Int32) (H : Heap) (locs : List Loc) (ls : Array Slot), b_Wd D A s.heap H locs [k_Model g a o pasts length printed told state backX backY boxes frees bestFree bestTurned bestFirst bestSecond v spare past kept isKept text paper left top wide high original turn boxX boxY boxW boxH freeAtX freeAtY freeW freeH begins ends tried aside] → lv_has ls 12 [(0, .ref (a o)), (1, .int i1), (3, .int i3), (4, .int r1), (5, .int r2), (6, .int x5), (7, .int x7)] → j65_8 x8 = some u → W p l e (g_rm 2 44) s m args below meth c H locs 0 0 Q (F0 m 65 ls [.int x8]) := by
      intro x8 H locs ls hw hl h
      subst ej65_8
      dsimp only at h
      refine lv_istore (lv' := [(8, .int x8), (0, .ref (a o)), (1, .int i1), (3, .int i3), (4, .int r1), (5, .int r2), (6, .int x5), (7, .int x7)]) hx hb dX11_values_65 hl (by decide) rfl (fun ls hl => ?_)
      refine lv_iload hx hb dX11_values_67 (lv_at hl 6 rfl) ?_
      refine lv_iload hx hb dX11_values_69 (lv_at hl 7 rfl) ?_
      obtain ⟨j81_9, ej81_9, h⟩ := g_bd_k h
      have hj81_9 : ∀ (x9 : Int32) (H : Heap) (locs : List Loc) (ls : Array Slot), b_Wd D A s.heap H locs [k_Model g a o pasts length printed told state backX backY boxes frees bestFree bestTurned bestFirst bestSecond v spare past kept isKept text paper left top wide high original turn boxX boxY boxW boxH freeAtX freeAtY freeW freeH begins ends tried aside] → lv_has ls 12 [(0, .ref (a o)), (1, .int i1), (3, .int i3), (4, .int r1), (5, .int r2), (8, .int x8)] → j81_9 x9 = some u → W p l e (g_rm 2 44) s m args below meth c H locs 0 0 Q (F0 m 81 ls [.int x9]) := by
        intro x9 H locs ls hw hl h
        subst ej81_9
        dsimp only at h
        refine lv_istore (lv' := [(9, .int x9), (0, .ref (a o)), (1, .int i1), (3, .int i3), (4, .int r1), (5, .int r2), (8, .int x8)]) hx hb dX11_values_81 hl (by decide) rfl (fun ls hl => ?_)
        refine lv_aload_n hx hb dX11_values_83 rfl (lv_at hl 1 rfl) ?_
        refine b_get hx hb hT hK hown fl_X11_7 hw 0 0 rfl rfl (v := .ref (a (o+1))) rfl dX11_values_84 ?_
        refine lv_bipush (v := 12) hx hb dX11_values_87 (by decide) ?_
        obtain ⟨x10, ex10, hix10, h⟩ := g_rd_some h
        refine b_iald hx hb hK hw 0 1 rfl (f := v) rfl hix10 ex10 dX11_values_89 ?_
        obtain ⟨j156_11, ej156_11, h⟩ := g_jn_nm h
        have hj156_11 : ∀ (x11 : Int32) (H : Heap) (locs : List Loc) (ls : Array Slot), b_Wd D A s.heap H locs [k_Model g a o pasts length printed told state backX backY boxes frees bestFree bestTurned bestFirst bestSecond v spare past kept isKept text paper left top wide high original turn boxX boxY boxW boxH freeAtX freeAtY freeW freeH begins ends tried aside] → lv_has ls 12 [(0, .ref (a o)), (1, .int i1), (3, .int i3), (8, .int x8), (9, .int x9)] → j156_11 x11 = some u → W p l e (g_rm 2 44) s m args below meth c H locs 0 0 Q (F0 m 156 ls [.int x11]) := by
          intro x11 H locs ls hw hl h
          subst ej156_11
          dsimp only at h
          refine lv_istore (lv' := [(10, .int x11), (0, .ref (a o)), (1, .int i1), (3, .int i3), (8, .int x8), (9, .int x9)]) hx hb dX11_values_156 hl (by decide) rfl (fun ls hl => ?_)
          refine lv_aload_n hx hb dX11_values_158 rfl (lv_at hl 1 rfl) ?_
          refine b_get hx hb hT hK hown fl_X11_7 hw 0 0 rfl rfl (v := .ref (a (o+1))) rfl dX11_values_159 ?_
          refine lv_bipush (v := 12) hx hb dX11_values_162 (by decide) ?_
          obtain ⟨x13, ex13, hix13, h⟩ := g_rd_some h
          refine b_iald hx hb hK hw 0 1 rfl (f := v) rfl hix13 ex13 dX11_values_164 ?_
          obtain ⟨j195_14, ej195_14, h⟩ := g_jn_nm h
          have hj195_14 : ∀ (x14 : Int32) (H : Heap) (locs : List Loc) (ls : Array Slot), b_Wd D A s.heap H locs [k_Model g a o pasts length printed told state backX backY boxes frees bestFree bestTurned bestFirst bestSecond v spare past kept isKept text paper left top wide high original turn boxX boxY boxW boxH freeAtX freeAtY freeW freeH begins ends tried aside] → lv_has ls 12 [(0, .ref (a o)), (1, .int i1), (3, .int i3), (10, .int x11)] → j195_14 x14 = some u → W p l e (g_rm 2 44) s m args below meth c H locs 0 0 Q (F0 m 195 ls [.int x14]) := by
            intro x14 H locs ls hw hl h
            subst ej195_14
            dsimp only at h
            refine lv_istore (lv' := [(11, .int x14), (0, .ref (a o)), (1, .int i1), (3, .int i3), (10, .int x11)]) hx hb dX11_values_195 hl (by decide) rfl (fun ls hl => ?_)
            refine lv_aload_n hx hb dX11_values_197 rfl (lv_at hl 1 rfl) ?_
            refine b_get hx hb hT hK hown fl_X11_222 hw 0 0 rfl rfl (v := .int bestFree) rfl dX11_values_198 ?_
            obtain ⟨j231_15, ej231_15, h⟩ := g_jn_nm h
            have hj231_15 : ∀ (H : Heap) (locs : List Loc) (ls : Array Slot), b_Wd D A s.heap H locs [k_Model g a o pasts length printed told state backX backY boxes frees bestFree bestTurned bestFirst bestSecond v spare past kept isKept text paper left top wide high original turn boxX boxY boxW boxH freeAtX freeAtY freeW freeH begins ends tried aside] → lv_has ls 12 [(0, .ref (a o)), (1, .int i1), (3, .int i3), (10, .int x11), (11, .int x14)] → j231_15 = some u → W p l e (g_rm 2 44) s m args below meth c H locs 0 0 Q (F0 m 231 ls []) := by
              intro  H locs ls hw hl h
              subst ej231_15
              refine lv_aload_n hx hb dX11_values_231 rfl (lv_at hl 0 rfl) ?_
              refine lv_iload_n hx hb dX11_values_232 rfl (lv_at hl 1 rfl) ?_
              refine b_putf hx hb hT hK hown fl_X11_222 ft_X11 hw 0 0 rfl rfl rfl rfl rfl (Nat.le_of_ble_eq_true rfl) rfl (wb' := [k_Model g a o pasts length printed told state backX backY boxes frees i1 bestTurned bestFirst bestSecond v spare past kept isKept text paper left top wide high original turn boxX boxY boxW boxH freeAtX freeAtY freeW freeH begins ends tried aside]) rfl dX11_values_233 (fun H locs hw => ?_)
              refine lv_aload_n hx hb dX11_values_236 rfl (lv_at hl 0 rfl) ?_
              refine lv_iload_n hx hb dX11_values_237 rfl (lv_at hl 2 rfl) ?_
              refine b_putf hx hb hT hK hown fl_X11_231 ft_X11 hw 0 0 rfl rfl rfl rfl rfl (Nat.le_of_ble_eq_true rfl) rfl (wb' := [k_Model g a o pasts length printed told state backX backY boxes frees i1 i3 bestFirst bestSecond v spare past kept isKept text paper left top wide high original turn boxX boxY boxW boxH freeAtX freeAtY freeW freeH begins ends tried aside]) rfl dX11_values_238 (fun H locs hw => ?_)
              refine lv_aload_n hx hb dX11_values_241 rfl (lv_at hl 0 rfl) ?_
              refine lv_iload hx hb dX11_values_242 (lv_at hl 3 rfl) ?_
              refine b_putf hx hb hT hK hown fl_X11_225 ft_X11 hw 0 0 rfl rfl rfl rfl rfl (Nat.le_of_ble_eq_true rfl) rfl (wb' := [k_Model g a o pasts length printed told state backX backY boxes frees i1 i3 x11 bestSecond v spare past kept isKept text paper left top wide high original turn boxX boxY boxW boxH freeAtX freeAtY freeW freeH begins ends tried aside]) rfl dX11_values_244 (fun H locs hw => ?_)
              refine lv_aload_n hx hb dX11_values_247 rfl (lv_at hl 0 rfl) ?_
              refine lv_iload hx hb dX11_values_248 (lv_at hl 4 rfl) ?_
              refine b_putf hx hb hT hK hown fl_X11_228 ft_X11 hw 0 0 rfl rfl rfl rfl rfl (Nat.le_of_ble_eq_true rfl) rfl (wb' := [k_Model g a o pasts length printed told state backX backY boxes frees i1 i3 x11 x14 v spare past kept isKept text paper left top wide high original turn boxX boxY boxW boxH freeAtX freeAtY freeW freeH begins ends tried aside]) rfl dX11_values_250 (fun H locs hw => ?_)
              obtain rfl := Option.some.inj h
              exact b_vret hQ hx hb hr hlk hw rfl dX11_values_253
            refine lv_if_lt (tgt := 231) hx hb dX11_values_201 (by decide) (fun hc201 => ?_) (fun hc201 => ?_)
            · rw [if_pos hc201] at h
              exact hj231_15  _ _ _ hw (lv_sub hl [1, 2, 3, 4, 0] rfl) h
            · rw [if_neg hc201] at h
              refine lv_iload hx hb dX11_values_204 (lv_at hl 4 rfl) ?_
              refine lv_aload_n hx hb dX11_values_206 rfl (lv_at hl 1 rfl) ?_
              refine b_get hx hb hT hK hown fl_X11_225 hw 0 0 rfl rfl (v := .int bestFirst) rfl dX11_values_207 ?_
              refine lv_icmp_lt (tgt := 231) hx hb dX11_values_210 (by decide) (fun hc210 => ?_) (fun hc210 => ?_)
              · rw [if_pos hc210] at h
                exact hj231_15  _ _ _ hw (lv_sub hl [1, 2, 3, 4, 0] rfl) h
              · rw [if_neg hc210] at h
                refine lv_iload hx hb dX11_values_213 (lv_at hl 4 rfl) ?_
                refine lv_aload_n hx hb dX11_values_215 rfl (lv_at hl 1 rfl) ?_
                refine b_get hx hb hT hK hown fl_X11_225 hw 0 0 rfl rfl (v := .int bestFirst) rfl dX11_values_216 ?_
                refine lv_icmp_ne (tgt := 253) hx hb dX11_values_219 (by decide) (fun hc219 => ?_) (fun hc219 => ?_)
                · rw [if_neg hc219] at h
                  obtain rfl := Option.some.inj h
                  exact b_vret hQ hx hb hr hlk hw rfl dX11_values_253
                · rw [if_pos hc219] at h
                  refine lv_iload hx hb dX11_values_222 (lv_at hl 0 rfl) ?_
                  refine lv_aload_n hx hb dX11_values_224 rfl (lv_at hl 1 rfl) ?_
                  refine b_get hx hb hT hK hown fl_X11_228 hw 0 0 rfl rfl (v := .int bestSecond) rfl dX11_values_225 ?_
                  refine lv_icmp_ge (tgt := 253) hx hb dX11_values_228 (by decide) (fun hc228 => ?_) (fun hc228 => ?_)
                  · rw [if_pos hc228] at h
                    obtain rfl := Option.some.inj h
                    exact b_vret hQ hx hb hr hlk hw rfl dX11_values_253
                  · rw [if_neg hc228] at h
                    exact hj231_15  _ _ _ hw (lv_sub hl [1, 2, 3, 4, 0] rfl) h
          refine lv_if_ne (tgt := 173) hx hb dX11_values_165 (by decide) (fun hc165 => ?_) (fun hc165 => ?_)
          · rw [if_neg hc165] at h
            refine lv_aload_n hx hb dX11_values_173 rfl (lv_at hl 1 rfl) ?_
            refine b_get hx hb hT hK hown fl_X11_7 hw 0 0 rfl rfl (v := .ref (a (o+1))) rfl dX11_values_174 ?_
            refine lv_bipush (v := 12) hx hb dX11_values_177 (by decide) ?_
            obtain ⟨x17, ex17, hix17, h⟩ := g_rd_some h
            refine b_iald hx hb hK hw 0 1 rfl (f := v) rfl hix17 ex17 dX11_values_179 ?_
            refine lv_iconst (v := 3) hx hb dX11_values_180 (by decide) ?_
            refine lv_icmp_ne (tgt := 193) hx hb dX11_values_181 (by decide) (fun hc181 => ?_) (fun hc181 => ?_)
            · rw [if_neg hc181] at h
              refine lv_iload hx hb dX11_values_193 (lv_at hl 4 rfl) ?_
              exact hj195_14 x8 _ _ _ hw (lv_sub hl [1, 2, 3, 0] rfl) h
            · rw [if_pos hc181] at h
              refine lv_aload_n hx hb dX11_values_184 rfl (lv_at hl 1 rfl) ?_
              refine b_get hx hb hT hK hown fl_X11_62 hw 0 0 rfl rfl (v := .ref (a (o+18))) rfl dX11_values_185 ?_
              refine lv_iload_n hx hb dX11_values_188 rfl (lv_at hl 2 rfl) ?_
              obtain ⟨x18, ex18, hix18, h⟩ := g_rd_some h
              refine b_iald hx hb hK hw 0 18 rfl (f := freeAtX) rfl hix18 ex18 dX11_values_189 ?_
              refine lv_goto (tgt := 195) hx hb dX11_values_190 (by decide) ?_
              exact hj195_14 x18 _ _ _ hw (lv_sub hl [1, 2, 3, 0] rfl) h
          · rw [if_pos hc165] at h
            refine lv_iload hx hb dX11_values_168 (lv_at hl 5 rfl) ?_
            refine lv_goto (tgt := 195) hx hb dX11_values_170 (by decide) ?_
            exact hj195_14 x9 _ _ _ hw (lv_sub hl [1, 2, 3, 0] rfl) h
        refine lv_if_ne (tgt := 98) hx hb dX11_values_90 (by decide) (fun hc90 => ?_) (fun hc90 => ?_)
        · rw [if_neg hc90] at h
          refine lv_aload_n hx hb dX11_values_98 rfl (lv_at hl 1 rfl) ?_
          refine b_get hx hb hT hK hown fl_X11_7 hw 0 0 rfl rfl (v := .ref (a (o+1))) rfl dX11_values_99 ?_
          refine lv_bipush (v := 12) hx hb dX11_values_102 (by decide) ?_
          obtain ⟨x19, ex19, hix19, h⟩ := g_rd_some h
          refine b_iald hx hb hK hw 0 1 rfl (f := v) rfl hix19 ex19 dX11_values_104 ?_
          refine lv_iconst (v := 1) hx hb dX11_values_105 (by decide) ?_
          refine lv_icmp_ne (tgt := 114) hx hb dX11_values_106 (by decide) (fun hc106 => ?_) (fun hc106 => ?_)
          · rw [if_neg hc106] at h
            refine lv_aload_n hx hb dX11_values_114 rfl (lv_at hl 1 rfl) ?_
            refine b_get hx hb hT hK hown fl_X11_7 hw 0 0 rfl rfl (v := .ref (a (o+1))) rfl dX11_values_115 ?_
            refine lv_bipush (v := 12) hx hb dX11_values_118 (by decide) ?_
            obtain ⟨x20, ex20, hix20, h⟩ := g_rd_some h
            refine b_iald hx hb hK hw 0 1 rfl (f := v) rfl hix20 ex20 dX11_values_120 ?_
            refine lv_iconst (v := 2) hx hb dX11_values_121 (by decide) ?_
            refine lv_icmp_ne (tgt := 147) hx hb dX11_values_122 (by decide) (fun hc122 => ?_) (fun hc122 => ?_)
            · rw [if_neg hc122] at h
              refine lv_aload_n hx hb dX11_values_147 rfl (lv_at hl 1 rfl) ?_
              refine b_get hx hb hT hK hown fl_X11_65 hw 0 0 rfl rfl (v := .ref (a (o+19))) rfl dX11_values_148 ?_
              refine lv_iload_n hx hb dX11_values_151 rfl (lv_at hl 2 rfl) ?_
              obtain ⟨x23, ex23, hix23, h⟩ := g_rd_some h
              refine b_iald hx hb hK hw 0 19 rfl (f := freeAtY) rfl hix23 ex23 dX11_values_152 ?_
              refine lv_iload hx hb dX11_values_153 (lv_at hl 5 rfl) ?_
              refine lv_iadd hx hb dX11_values_155 ?_
              exact hj156_11 (x23 + r2) _ _ _ hw (lv_sub hl [1, 2, 3, 6, 0] rfl) h
            · rw [if_pos hc122] at h
              refine lv_aload_n hx hb dX11_values_125 rfl (lv_at hl 1 rfl) ?_
              refine b_get hx hb hT hK hown fl_X11_68 hw 0 0 rfl rfl (v := .ref (a (o+20))) rfl dX11_values_126 ?_
              refine lv_iload_n hx hb dX11_values_129 rfl (lv_at hl 2 rfl) ?_
              obtain ⟨x21, ex21, hix21, h⟩ := g_rd_some h
              refine b_iald hx hb hK hw 0 20 rfl (f := freeW) rfl hix21 ex21 dX11_values_130 ?_
              refine lv_aload_n hx hb dX11_values_131 rfl (lv_at hl 1 rfl) ?_
              refine b_get hx hb hT hK hown fl_X11_71 hw 0 0 rfl rfl (v := .ref (a (o+21))) rfl dX11_values_132 ?_
              refine lv_iload_n hx hb dX11_values_135 rfl (lv_at hl 2 rfl) ?_
              obtain ⟨x22, ex22, hix22, h⟩ := g_rd_some h
              refine b_iald hx hb hK hw 0 21 rfl (f := freeH) rfl hix22 ex22 dX11_values_136 ?_
              refine lv_imul hx hb dX11_values_137 ?_
              refine lv_iload hx hb dX11_values_138 (lv_at hl 4 rfl) ?_
              refine lv_iload hx hb dX11_values_140 (lv_at hl 5 rfl) ?_
              refine lv_imul hx hb dX11_values_142 ?_
              refine lv_isub hx hb dX11_values_143 ?_
              refine lv_goto (tgt := 156) hx hb dX11_values_144 (by decide) ?_
              exact hj156_11 ((x21 * x22) - (r1 * r2)) _ _ _ hw (lv_sub hl [1, 2, 3, 6, 0] rfl) h
          · rw [if_pos hc106] at h
            refine lv_iload hx hb dX11_values_109 (lv_at hl 0 rfl) ?_
            refine lv_goto (tgt := 156) hx hb dX11_values_111 (by decide) ?_
            exact hj156_11 x9 _ _ _ hw (lv_sub hl [1, 2, 3, 6, 0] rfl) h
        · rw [if_pos hc90] at h
          refine lv_iload hx hb dX11_values_93 (lv_at hl 6 rfl) ?_
          refine lv_goto (tgt := 156) hx hb dX11_values_95 (by decide) ?_
          exact hj156_11 x8 _ _ _ hw (lv_sub hl [1, 2, 3, 6, 0] rfl) h
      refine lv_icmp_ge (tgt := 79) hx hb dX11_values_71 (by decide) (fun hc71 => ?_) (fun hc71 => ?_)
      · rw [if_pos hc71] at h
        refine lv_iload hx hb dX11_values_79 (lv_at hl 6 rfl) ?_
        exact hj81_9 x5 _ _ _ hw (lv_sub hl [1, 2, 3, 4, 5, 0] rfl) h
      · rw [if_neg hc71] at h
        refine lv_iload hx hb dX11_values_74 (lv_at hl 7 rfl) ?_
        refine lv_goto (tgt := 81) hx hb dX11_values_76 (by decide) ?_
        exact hj81_9 x7 _ _ _ hw (lv_sub hl [1, 2, 3, 4, 5, 0] rfl) h
    refine lv_icmp_ge (tgt := 63) hx hb dX11_values_55 (by decide) (fun hc55 => ?_) (fun hc55 => ?_)
    · rw [if_pos hc55] at h
      refine lv_iload hx hb dX11_values_63 (lv_at hl 0 rfl) ?_
      exact hj65_8 x7 _ _ _ hw (lv_sub hl [4, 5, 7, 3, 2, 1, 0] rfl) h
    · rw [if_neg hc55] at h
      refine lv_iload hx hb dX11_values_58 (lv_at hl 1 rfl) ?_
      refine lv_goto (tgt := 65) hx hb dX11_values_60 (by decide) ?_
      exact hj65_8 x5 _ _ _ hw (lv_sub hl [4, 5, 7, 3, 2, 1, 0] rfl) h
  · rw [if_pos hc25] at h
    obtain rfl := Option.some.inj h
    exact b_vret hQ hx hb hr hlk hw rfl dX11_values_28
