set_option maxRecDepth 100000 in
set_option maxHeartbeats 4000000 in
theorem c_X11_isLike (l : Launch) (D : va_G) (g : Nat → ClassId) (a : Nat → Nat) (o : Nat) (pasts : Int32) (length : Int32) (printed : Int32) (told : Int32) (state : Int64) (backX : Int32) (backY : Int32) (boxes : Int32) (frees : Int32) (bestFree : Int32) (bestTurned : Int32) (bestFirst : Int32) (bestSecond : Int32) (v : (Nat → Int32)) (spare : (Nat → Int32)) (past : (Nat → Int32)) (kept : (Nat → Int32)) (isKept : (Nat → Int32)) (text : (Nat → Int32)) (paper : (Nat → Int32)) (left : (Nat → Int32)) (top : (Nat → Int32)) (wide : (Nat → Int32)) (high : (Nat → Int32)) (original : (Nat → Int32)) (turn : (Nat → Int32)) (boxX : (Nat → Int32)) (boxY : (Nat → Int32)) (boxW : (Nat → Int32)) (boxH : (Nat → Int32)) (freeAtX : (Nat → Int32)) (freeAtY : (Nat → Int32)) (freeW : (Nat → Int32)) (freeH : (Nat → Int32)) (begins : (Nat → Int32)) (ends : (Nat → Int32)) (tried : (Nat → Int32)) (aside : (Nat → Int32)) (i1 : Int32) (i2 : Int32) (i3 : Int32) (i4 : Int32) (u : Int32 × Int32 × Int32) (h : f_X11_isLike backX backY v left top wide high i1 i2 i3 i4 = some u) : b_Ct l yX11_isLike cX11_isLike 9 (some .boolean) 2 53 D g [.ref (a o), .int i1, .int i2, .int i3, .int i4] [k_Model g a o pasts length printed told state backX backY boxes frees bestFree bestTurned bestFirst bestSecond v spare past kept isKept text paper left top wide high original turn boxX boxY boxW boxH freeAtX freeAtY freeW freeH begins ends tried aside] [k_Model g a o pasts length printed told state u.2.1 u.2.2 boxes frees bestFree bestTurned bestFirst bestSecond v spare past kept isKept text paper left top wide high original turn boxX boxY boxW boxH freeAtX freeAtY freeW freeH begins ends tried aside] (some (.int u.1)) := by
  refine b_start RX11 (by decide) rfl (Nat.le_of_ble_eq_true rfl) rfl ?_
  intro p e s m args below meth c A ls Q hQ hx hb hr hlk hml hown hT hK hA hw hl
  have hl : lv_has ls 9 [(0, .ref (a o)), (1, .int i1), (2, .int i2), (3, .int i3), (4, .int i4)] := hl
  unfold f_X11_isLike at h
  refine lv_iload hx hb dX11_isLike_0 (lv_at hl 4 rfl) ?_
  refine lv_iload_n hx hb dX11_isLike_2 rfl (lv_at hl 3 rfl) ?_
  refine lv_iadd hx hb dX11_isLike_3 ?_
  refine lv_iconst (v := 2) hx hb dX11_isLike_4 (by decide) ?_
  refine g_irem hx hb dX11_isLike_5 (by decide) ?_
  refine lv_iconst (v := 1) hx hb dX11_isLike_6 (by decide) ?_
  obtain ⟨j15_1, ej15_1, h⟩ := g_bd_k h
  have hj15_1 : ∀ (x1 : Int32) (H : Heap) (locs : List Loc) (ls : Array Slot), b_Wd D A s.heap H locs [k_Model g a o pasts length printed told state backX backY boxes frees bestFree bestTurned bestFirst bestSecond v spare past kept isKept text paper left top wide high original turn boxX boxY boxW boxH freeAtX freeAtY freeW freeH begins ends tried aside] → lv_has ls 9 [(0, .ref (a o)), (1, .int i1), (2, .int i2), (3, .int i3), (4, .int i4)] → j15_1 x1 = some u → W p l e (g_rm 2 53) s m args below meth c H locs 0 0 Q (F0 m 15 ls [.int x1]) := by
    intro x1 H locs ls hw hl h
    subst ej15_1
    dsimp only at h
    refine lv_istore (lv' := [(5, .int x1), (0, .ref (a o)), (1, .int i1), (2, .int i2), (3, .int i3), (4, .int i4)]) hx hb dX11_isLike_15 hl (by decide) rfl (fun ls hl => ?_)
    refine lv_aload_n hx hb dX11_isLike_17 rfl (lv_at hl 1 rfl) ?_
    refine b_get hx hb hT hK hown fl_X11_38 hw 0 0 rfl rfl (v := .ref (a (o+10))) rfl dX11_isLike_18 ?_
    refine lv_iload_n hx hb dX11_isLike_21 rfl (lv_at hl 2 rfl) ?_
    obtain ⟨x2, ex2, hix2, h⟩ := g_rd_some h
    refine b_iald hx hb hK hw 0 10 rfl (f := wide) rfl hix2 ex2 dX11_isLike_22 ?_
    refine lv_iload hx hb dX11_isLike_23 (lv_at hl 0 rfl) ?_
    obtain ⟨j43_3, ej43_3, h⟩ := g_jn_nm h
    have hj43_3 : ∀ (x3 : Int32) (H : Heap) (locs : List Loc) (ls : Array Slot), b_Wd D A s.heap H locs [k_Model g a o pasts length printed told state backX backY boxes frees bestFree bestTurned bestFirst bestSecond v spare past kept isKept text paper left top wide high original turn boxX boxY boxW boxH freeAtX freeAtY freeW freeH begins ends tried aside] → lv_has ls 9 [(0, .ref (a o)), (1, .int i1), (2, .int i2), (3, .int i3), (4, .int i4), (5, .int x1)] → j43_3 x3 = some u → W p l e (g_rm 2 53) s m args below meth c H locs 0 0 Q (F0 m 43 ls [.int x3, .int x2]) := by
      intro x3 H locs ls hw hl h
      subst ej43_3
      dsimp only at h
      refine lv_icmp_ne (tgt := 75) hx hb dX11_isLike_43 (by decide) (fun hc43 => ?_) (fun hc43 => ?_)
      · rw [if_neg hc43] at h
        refine lv_iconst (v := 0) hx hb dX11_isLike_75 (by decide) ?_
        obtain rfl := Option.some.inj h
        exact b_zret hQ hx hb hr hlk (Or.inl rfl) hw rfl dX11_isLike_76
      · rw [if_pos hc43] at h
        refine lv_aload_n hx hb dX11_isLike_46 rfl (lv_at hl 0 rfl) ?_
        refine b_get hx hb hT hK hown fl_X11_41 hw 0 0 rfl rfl (v := .ref (a (o+11))) rfl dX11_isLike_47 ?_
        refine lv_iload_n hx hb dX11_isLike_50 rfl (lv_at hl 1 rfl) ?_
        obtain ⟨x5, ex5, hix5, h⟩ := g_rd_some h
        refine b_iald hx hb hK hw 0 11 rfl (f := high) rfl hix5 ex5 dX11_isLike_51 ?_
        refine lv_iload hx hb dX11_isLike_52 (lv_at hl 5 rfl) ?_
        obtain ⟨j72_6, ej72_6, h⟩ := g_jn_nm h
        have hj72_6 : ∀ (x6 : Int32) (H : Heap) (locs : List Loc) (ls : Array Slot), b_Wd D A s.heap H locs [k_Model g a o pasts length printed told state backX backY boxes frees bestFree bestTurned bestFirst bestSecond v spare past kept isKept text paper left top wide high original turn boxX boxY boxW boxH freeAtX freeAtY freeW freeH begins ends tried aside] → lv_has ls 9 [(0, .ref (a o)), (1, .int i1), (2, .int i2), (3, .int i3), (4, .int i4)] → j72_6 x6 = some u → W p l e (g_rm 2 53) s m args below meth c H locs 0 0 Q (F0 m 72 ls [.int x6, .int x5]) := by
          intro x6 H locs ls hw hl h
          subst ej72_6
          dsimp only at h
          refine lv_icmp_eq (tgt := 77) hx hb dX11_isLike_72 (by decide) (fun hc72 => ?_) (fun hc72 => ?_)
          · rw [if_pos hc72] at h
            refine lv_iconst (v := 1) hx hb dX11_isLike_77 (by decide) ?_
            refine lv_istore (lv' := [(6, .int (1 : Int32)), (0, .ref (a o)), (1, .int i1), (2, .int i2), (3, .int i3), (4, .int i4)]) hx hb dX11_isLike_78 hl (by decide) rfl (fun ls hl => ?_)
            refine lv_iconst (v := 0) hx hb dX11_isLike_80 (by decide) ?_
            refine lv_istore (lv' := [(7, .int (0 : Int32)), (6, .int (1 : Int32)), (0, .ref (a o)), (1, .int i1), (2, .int i2), (3, .int i3), (4, .int i4)]) hx hb dX11_isLike_81 hl (by decide) rfl (fun ls hl => ?_)
            have hL83 : ∀ (n : Nat) (x8 : Int32) (x9 : Int32) (x10 : Int32) (x11 : Int32) (H : Heap) (locs : List Loc) (ls : Array Slot), b_Wd D A s.heap H locs [k_Model g a o pasts length printed told state x10 x11 boxes frees bestFree bestTurned bestFirst bestSecond v spare past kept isKept text paper left top wide high original turn boxX boxY boxW boxH freeAtX freeAtY freeW freeH begins ends tried aside] → lv_has ls 9 [(0, .ref (a o)), (1, .int i1), (2, .int i2), (3, .int i3), (4, .int i4), (6, .int x8), (7, .int x9)] → f_X11_isLike_L83 v left top wide high i1 i2 i3 i4 n x8 x9 x10 x11 = some u → W p l e (g_rm 2 53) s m args below meth c H locs 0 0 Q (F0 m 83 ls []) := by
              intro n
              induction n with
              | zero =>
                intro x8 x9 x10 x11 H locs ls hw hl h
                cases (show none = some u from h)
              | succ n ih83 =>
                intro x8 x9 x10 x11 H locs ls hw hl h
                rw [f_X11_isLike_L83] at h
                refine lv_iload hx hb dX11_isLike_83 (lv_at hl 6 rfl) ?_
                refine lv_aload_n hx hb dX11_isLike_85 rfl (lv_at hl 0 rfl) ?_
                refine b_get hx hb hT hK hown fl_X11_41 hw 0 0 rfl rfl (v := .ref (a (o+11))) rfl dX11_isLike_86 ?_
                refine lv_iload_n hx hb dX11_isLike_89 rfl (lv_at hl 1 rfl) ?_
                obtain ⟨x12, ex12, hix12, h⟩ := g_rd_some h
                refine b_iald hx hb hK hw 0 11 rfl (f := high) rfl hix12 ex12 dX11_isLike_90 ?_
                refine lv_icmp_ge (tgt := 179) hx hb dX11_isLike_91 (by decide) (fun hc91 => ?_) (fun hc91 => ?_)
                · rw [if_pos hc91] at h
                  refine lv_iload hx hb dX11_isLike_179 (lv_at hl 5 rfl) ?_
                  obtain ⟨z13, h⟩ := g_z_some h
                  obtain rfl := Option.some.inj h
                  exact b_zret hQ hx hb hr hlk z13 hw rfl dX11_isLike_181
                · rw [if_neg hc91] at h
                  refine lv_iload hx hb dX11_isLike_94 (lv_at hl 5 rfl) ?_
                  refine lv_if_eq (tgt := 179) hx hb dX11_isLike_96 (by decide) (fun hc96 => ?_) (fun hc96 => ?_)
                  · rw [if_pos hc96] at h
                    refine lv_iload hx hb dX11_isLike_179 (lv_at hl 5 rfl) ?_
                    obtain ⟨z14, h⟩ := g_z_some h
                    obtain rfl := Option.some.inj h
                    exact b_zret hQ hx hb hr hlk z14 hw rfl dX11_isLike_181
                  · rw [if_neg hc96] at h
                    refine lv_iconst (v := 0) hx hb dX11_isLike_99 (by decide) ?_
                    refine lv_istore (lv' := [(8, .int (0 : Int32)), (0, .ref (a o)), (1, .int i1), (2, .int i2), (3, .int i3), (4, .int i4), (6, .int x8), (7, .int x9)]) hx hb dX11_isLike_100 hl (by decide) rfl (fun ls hl => ?_)
                    obtain ⟨k173_17, ek173_17, h⟩ := g_jn_nm h
                    have hk173_17 : ∀ (x15 : Int32) (x16 : Int32) (x17 : Int32) (H : Heap) (locs : List Loc) (ls : Array Slot), b_Wd D A s.heap H locs [k_Model g a o pasts length printed told state x16 x17 boxes frees bestFree bestTurned bestFirst bestSecond v spare past kept isKept text paper left top wide high original turn boxX boxY boxW boxH freeAtX freeAtY freeW freeH begins ends tried aside] → lv_has ls 9 [(0, .ref (a o)), (1, .int i1), (2, .int i2), (3, .int i3), (4, .int i4), (6, .int x15), (7, .int x9)] → k173_17 x15 x16 x17 = some u → W p l e (g_rm 2 53) s m args below meth c H locs 0 0 Q (F0 m 173 ls []) := by
                      intro x15 x16 x17 H locs ls hw hl h
                      subst ek173_17
                      dsimp only at h
                      obtain ⟨x19, ex19, h⟩ := g_bd_nm h
                      refine lv_iinc (v := x19) (lv' := [(7, .int x19), (0, .ref (a o)), (1, .int i1), (2, .int i2), (3, .int i3), (4, .int i4), (6, .int x15)]) hx hb dX11_isLike_173 hl (k := 6) rfl (by rw [ex19]; rfl) (by decide) rfl (fun ls hl => ?_)
                      refine lv_goto (tgt := 83) hx hb dX11_isLike_176 (by decide) ?_
                      exact ih83 x15 x19 x16 x17 _ _ _ hw (lv_sub hl [1, 2, 3, 4, 5, 6, 0] rfl) h
                    have hL102 : ∀ (n : Nat) (x20 : Int32) (x21 : Int32) (x22 : Int32) (x23 : Int32) (H : Heap) (locs : List Loc) (ls : Array Slot), b_Wd D A s.heap H locs [k_Model g a o pasts length printed told state x22 x23 boxes frees bestFree bestTurned bestFirst bestSecond v spare past kept isKept text paper left top wide high original turn boxX boxY boxW boxH freeAtX freeAtY freeW freeH begins ends tried aside] → lv_has ls 9 [(0, .ref (a o)), (1, .int i1), (2, .int i2), (3, .int i3), (4, .int i4), (6, .int x20), (7, .int x9), (8, .int x21)] → f_X11_isLike_L102 v left top wide high i1 i2 i3 i4 x9 k173_17 n x20 x21 x22 x23 = some u → W p l e (g_rm 2 53) s m args below meth c H locs 0 0 Q (F0 m 102 ls []) := by
                      intro n
                      induction n with
                      | zero =>
                        intro x20 x21 x22 x23 H locs ls hw hl h
                        cases (show none = some u from h)
                      | succ n ih102 =>
                        intro x20 x21 x22 x23 H locs ls hw hl h
                        rw [f_X11_isLike_L102] at h
                        refine lv_iload hx hb dX11_isLike_102 (lv_at hl 7 rfl) ?_
                        refine lv_aload_n hx hb dX11_isLike_104 rfl (lv_at hl 0 rfl) ?_
                        refine b_get hx hb hT hK hown fl_X11_38 hw 0 0 rfl rfl (v := .ref (a (o+10))) rfl dX11_isLike_105 ?_
                        refine lv_iload_n hx hb dX11_isLike_108 rfl (lv_at hl 1 rfl) ?_
                        obtain ⟨x24, ex24, hix24, h⟩ := g_rd_some h
                        refine b_iald hx hb hK hw 0 10 rfl (f := wide) rfl hix24 ex24 dX11_isLike_109 ?_
                        refine lv_icmp_ge (tgt := 173) hx hb dX11_isLike_110 (by decide) (fun hc110 => ?_) (fun hc110 => ?_)
                        · rw [if_pos hc110] at h
                          exact hk173_17 x20 x22 x23 _ _ _ hw (lv_sub hl [0, 1, 2, 3, 4, 5, 6] rfl) h
                        · rw [if_neg hc110] at h
                          refine lv_iload hx hb dX11_isLike_113 (lv_at hl 5 rfl) ?_
                          refine lv_if_eq (tgt := 173) hx hb dX11_isLike_115 (by decide) (fun hc115 => ?_) (fun hc115 => ?_)
                          · rw [if_pos hc115] at h
                            exact hk173_17 x20 x22 x23 _ _ _ hw (lv_sub hl [0, 1, 2, 3, 4, 5, 6] rfl) h
                          · rw [if_neg hc115] at h
                            refine lv_aload_n hx hb dX11_isLike_118 rfl (lv_at hl 0 rfl) ?_
                            refine b_get hx hb hT hK hown fl_X11_7 hw 0 0 rfl rfl (v := .ref (a (o+1))) rfl dX11_isLike_119 ?_
                            refine lv_iload_n hx hb dX11_isLike_122 rfl (lv_at hl 1 rfl) ?_
                            refine lv_aload_n hx hb dX11_isLike_123 rfl (lv_at hl 0 rfl) ?_
                            refine b_get hx hb hT hK hown fl_X11_32 hw 0 0 rfl rfl (v := .ref (a (o+8))) rfl dX11_isLike_124 ?_
                            refine lv_iload_n hx hb dX11_isLike_127 rfl (lv_at hl 1 rfl) ?_
                            obtain ⟨x25, ex25, hix25, h⟩ := g_rd_some h
                            refine b_iald hx hb hK hw 0 8 rfl (f := left) rfl hix25 ex25 dX11_isLike_128 ?_
                            refine lv_iload hx hb dX11_isLike_129 (lv_at hl 7 rfl) ?_
                            refine lv_iadd hx hb dX11_isLike_131 ?_
                            refine lv_aload_n hx hb dX11_isLike_132 rfl (lv_at hl 0 rfl) ?_
                            refine b_get hx hb hT hK hown fl_X11_35 hw 0 0 rfl rfl (v := .ref (a (o+9))) rfl dX11_isLike_133 ?_
                            refine lv_iload_n hx hb dX11_isLike_136 rfl (lv_at hl 1 rfl) ?_
                            obtain ⟨x26, ex26, hix26, h⟩ := g_rd_some h
                            refine b_iald hx hb hK hw 0 9 rfl (f := top) rfl hix26 ex26 dX11_isLike_137 ?_
                            refine lv_iload hx hb dX11_isLike_138 (lv_at hl 6 rfl) ?_
                            refine lv_iadd hx hb dX11_isLike_140 ?_
                            refine b_callS hx hb hml hown hT hK hA hw mk_X11_118 (c_X11_pixelAt l D g i1 (x25 + x21) (x26 + x9)) [] [0] rfl (by decide) rfl hl.1 [.ref (a (o+1))] rfl (Nat.le_of_ble_eq_true rfl) ⟨Nat.le_of_ble_eq_true rfl, Nat.le_of_ble_eq_true rfl⟩ ⟨Nat.zero_le _, Nat.zero_le _⟩ dX11_isLike_141 (wb' := [k_Model g a o pasts length printed told state x22 x23 boxes frees bestFree bestTurned bestFirst bestSecond v spare past kept isKept text paper left top wide high original turn boxX boxY boxW boxH freeAtX freeAtY freeW freeH begins ends tried aside]) rfl (b_e1 rfl b_e0) 1 rfl (by decide) (st2 := [.int (f_X11_pixelAt i1 (x25 + x21) (x26 + x9)), .ref (a (o+1))]) rfl (fun H locs hw => ?_)
                            obtain ⟨x27, ex27, hix27, h⟩ := g_rd_some h
                            refine b_iald hx hb hK hw 0 1 rfl (f := v) rfl hix27 ex27 dX11_isLike_144 ?_
                            refine lv_aload_n hx hb dX11_isLike_145 rfl (lv_at hl 0 rfl) ?_
                            refine lv_iload_n hx hb dX11_isLike_146 rfl (lv_at hl 2 rfl) ?_
                            refine lv_iload_n hx hb dX11_isLike_147 rfl (lv_at hl 3 rfl) ?_
                            refine lv_iload hx hb dX11_isLike_148 (lv_at hl 4 rfl) ?_
                            refine lv_iload hx hb dX11_isLike_150 (lv_at hl 7 rfl) ?_
                            refine lv_iload hx hb dX11_isLike_152 (lv_at hl 6 rfl) ?_
                            obtain ⟨r28, er28, h⟩ := g_cl_some h
                            refine b_callV hx hb hml hown hT hK hA hw mk_X11_158 (c_X11_colorBy l D g a o pasts length printed told state x22 x23 boxes frees bestFree bestTurned bestFirst bestSecond v spare past kept isKept text paper left top wide high original turn boxX boxY boxW boxH freeAtX freeAtY freeW freeH begins ends tried aside i2 i3 i4 x21 x9 r28 er28) [0] [] rfl (by decide) 0 0 rfl rfl rfl rfl hl.1 [.int x27] rfl (Nat.le_of_ble_eq_true rfl) ⟨Nat.le_of_ble_eq_true rfl, Nat.le_of_ble_eq_true rfl⟩ ⟨Nat.zero_le _, Nat.zero_le _⟩ dX11_isLike_154 (wb' := [k_Model g a o pasts length printed told state r28.2.1 r28.2.2 boxes frees bestFree bestTurned bestFirst bestSecond v spare past kept isKept text paper left top wide high original turn boxX boxY boxW boxH freeAtX freeAtY freeW freeH begins ends tried aside]) rfl b_e0 1 rfl (by decide) (st2 := [.int r28.1, .int x27]) rfl (fun H locs hw => ?_)
                            obtain ⟨j165_29, ej165_29, h⟩ := g_bd_k h
                            have hj165_29 : ∀ (x29 : Int32) (H : Heap) (locs : List Loc) (ls : Array Slot), b_Wd D A s.heap H locs [k_Model g a o pasts length printed told state r28.2.1 r28.2.2 boxes frees bestFree bestTurned bestFirst bestSecond v spare past kept isKept text paper left top wide high original turn boxX boxY boxW boxH freeAtX freeAtY freeW freeH begins ends tried aside] → lv_has ls 9 [(0, .ref (a o)), (1, .int i1), (2, .int i2), (3, .int i3), (4, .int i4), (7, .int x9), (8, .int x21)] → j165_29 x29 = some u → W p l e (g_rm 2 53) s m args below meth c H locs 0 0 Q (F0 m 165 ls [.int x29]) := by
                              intro x29 H locs ls hw hl h
                              subst ej165_29
                              dsimp only at h
                              refine lv_istore (lv' := [(6, .int x29), (0, .ref (a o)), (1, .int i1), (2, .int i2), (3, .int i3), (4, .int i4), (7, .int x9), (8, .int x21)]) hx hb dX11_isLike_165 hl (by decide) rfl (fun ls hl => ?_)
                              obtain ⟨x30, ex30, h⟩ := g_bd_nm h
                              refine lv_iinc (v := x30) (lv' := [(8, .int x30), (6, .int x29), (0, .ref (a o)), (1, .int i1), (2, .int i2), (3, .int i3), (4, .int i4), (7, .int x9)]) hx hb dX11_isLike_167 hl (k := 7) rfl (by rw [ex30]; rfl) (by decide) rfl (fun ls hl => ?_)
                              refine lv_goto (tgt := 102) hx hb dX11_isLike_170 (by decide) ?_
                              exact ih102 x29 x30 r28.2.1 r28.2.2 _ _ _ hw (lv_sub hl [2, 3, 4, 5, 6, 1, 7, 0] rfl) h
                            refine lv_icmp_ne (tgt := 164) hx hb dX11_isLike_157 (by decide) (fun hc157 => ?_) (fun hc157 => ?_)
                            · rw [if_neg hc157] at h
                              refine lv_iconst (v := 0) hx hb dX11_isLike_164 (by decide) ?_
                              exact hj165_29 (0 : Int32) _ _ _ hw (lv_sub hl [0, 1, 2, 3, 4, 6, 7] rfl) h
                            · rw [if_pos hc157] at h
                              refine lv_iconst (v := 1) hx hb dX11_isLike_160 (by decide) ?_
                              refine lv_goto (tgt := 165) hx hb dX11_isLike_161 (by decide) ?_
                              exact hj165_29 (1 : Int32) _ _ _ hw (lv_sub hl [0, 1, 2, 3, 4, 6, 7] rfl) h
                    exact hL102 g_fuel x8 (0 : Int32) x10 x11 _ _ _ hw (lv_sub hl [1, 2, 3, 4, 5, 6, 7, 0] rfl) h
            exact hL83 g_fuel (1 : Int32) (0 : Int32) backX backY _ _ _ hw (lv_sub hl [2, 3, 4, 5, 6, 1, 0] rfl) h
          · rw [if_neg hc72] at h
            refine lv_iconst (v := 0) hx hb dX11_isLike_75 (by decide) ?_
            obtain rfl := Option.some.inj h
            exact b_zret hQ hx hb hr hlk (Or.inl rfl) hw rfl dX11_isLike_76
        refine lv_if_eq (tgt := 66) hx hb dX11_isLike_54 (by decide) (fun hc54 => ?_) (fun hc54 => ?_)
        · rw [if_pos hc54] at h
          refine lv_aload_n hx hb dX11_isLike_66 rfl (lv_at hl 0 rfl) ?_
          refine b_get hx hb hT hK hown fl_X11_41 hw 0 0 rfl rfl (v := .ref (a (o+11))) rfl dX11_isLike_67 ?_
          refine lv_iload_n hx hb dX11_isLike_70 rfl (lv_at hl 2 rfl) ?_
          obtain ⟨x31, ex31, hix31, h⟩ := g_rd_some h
          refine b_iald hx hb hK hw 0 11 rfl (f := high) rfl hix31 ex31 dX11_isLike_71 ?_
          exact hj72_6 x31 _ _ _ hw (lv_sub hl [0, 1, 2, 3, 4] rfl) h
        · rw [if_neg hc54] at h
          refine lv_aload_n hx hb dX11_isLike_57 rfl (lv_at hl 0 rfl) ?_
          refine b_get hx hb hT hK hown fl_X11_38 hw 0 0 rfl rfl (v := .ref (a (o+10))) rfl dX11_isLike_58 ?_
          refine lv_iload_n hx hb dX11_isLike_61 rfl (lv_at hl 2 rfl) ?_
          obtain ⟨x32, ex32, hix32, h⟩ := g_rd_some h
          refine b_iald hx hb hK hw 0 10 rfl (f := wide) rfl hix32 ex32 dX11_isLike_62 ?_
          refine lv_goto (tgt := 72) hx hb dX11_isLike_63 (by decide) ?_
          exact hj72_6 x32 _ _ _ hw (lv_sub hl [0, 1, 2, 3, 4] rfl) h
    refine lv_if_eq (tgt := 37) hx hb dX11_isLike_25 (by decide) (fun hc25 => ?_) (fun hc25 => ?_)
    · rw [if_pos hc25] at h
      refine lv_aload_n hx hb dX11_isLike_37 rfl (lv_at hl 1 rfl) ?_
      refine b_get hx hb hT hK hown fl_X11_38 hw 0 0 rfl rfl (v := .ref (a (o+10))) rfl dX11_isLike_38 ?_
      refine lv_iload_n hx hb dX11_isLike_41 rfl (lv_at hl 3 rfl) ?_
      obtain ⟨x33, ex33, hix33, h⟩ := g_rd_some h
      refine b_iald hx hb hK hw 0 10 rfl (f := wide) rfl hix33 ex33 dX11_isLike_42 ?_
      exact hj43_3 x33 _ _ _ hw (lv_sub hl [1, 2, 3, 4, 5, 0] rfl) h
    · rw [if_neg hc25] at h
      refine lv_aload_n hx hb dX11_isLike_28 rfl (lv_at hl 1 rfl) ?_
      refine b_get hx hb hT hK hown fl_X11_41 hw 0 0 rfl rfl (v := .ref (a (o+11))) rfl dX11_isLike_29 ?_
      refine lv_iload_n hx hb dX11_isLike_32 rfl (lv_at hl 3 rfl) ?_
      obtain ⟨x34, ex34, hix34, h⟩ := g_rd_some h
      refine b_iald hx hb hK hw 0 11 rfl (f := high) rfl hix34 ex34 dX11_isLike_33 ?_
      refine lv_goto (tgt := 43) hx hb dX11_isLike_34 (by decide) ?_
      exact hj43_3 x34 _ _ _ hw (lv_sub hl [1, 2, 3, 4, 5, 0] rfl) h
  refine lv_icmp_ne (tgt := 14) hx hb dX11_isLike_7 (by decide) (fun hc7 => ?_) (fun hc7 => ?_)
  · rw [if_neg hc7] at h
    refine lv_iconst (v := 0) hx hb dX11_isLike_14 (by decide) ?_
    exact hj15_1 (0 : Int32) _ _ _ hw (lv_sub hl [0, 1, 2, 3, 4] rfl) h
  · rw [if_pos hc7] at h
    refine lv_iconst (v := 1) hx hb dX11_isLike_10 (by decide) ?_
    refine lv_goto (tgt := 15) hx hb dX11_isLike_11 (by decide) ?_
    exact hj15_1 (1 : Int32) _ _ _ hw (lv_sub hl [0, 1, 2, 3, 4] rfl) h
set_option maxRecDepth 100000 in
set_option maxHeartbeats 4000000 in
theorem c_X11_orientations (l : Launch) (D : va_G) (g : Nat → ClassId) (a : Nat → Nat) (o : Nat) (pasts : Int32) (length : Int32) (printed : Int32) (told : Int32) (state : Int64) (backX : Int32) (backY : Int32) (boxes : Int32) (frees : Int32) (bestFree : Int32) (bestTurned : Int32) (bestFirst : Int32) (bestSecond : Int32) (v : (Nat → Int32)) (spare : (Nat → Int32)) (past : (Nat → Int32)) (kept : (Nat → Int32)) (isKept : (Nat → Int32)) (text : (Nat → Int32)) (paper : (Nat → Int32)) (left : (Nat → Int32)) (top : (Nat → Int32)) (wide : (Nat → Int32)) (high : (Nat → Int32)) (original : (Nat → Int32)) (turn : (Nat → Int32)) (boxX : (Nat → Int32)) (boxY : (Nat → Int32)) (boxW : (Nat → Int32)) (boxH : (Nat → Int32)) (freeAtX : (Nat → Int32)) (freeAtY : (Nat → Int32)) (freeW : (Nat → Int32)) (freeH : (Nat → Int32)) (begins : (Nat → Int32)) (ends : (Nat → Int32)) (tried : (Nat → Int32)) (aside : (Nat → Int32)) (u : Int32) (h : f_X11_orientations v = some u) : b_Ct l yX11_orientations cX11_orientations 1 (some .int) 0 0 D g [.ref (a o)] [k_Model g a o pasts length printed told state backX backY boxes frees bestFree bestTurned bestFirst bestSecond v spare past kept isKept text paper left top wide high original turn boxX boxY boxW boxH freeAtX freeAtY freeW freeH begins ends tried aside] [k_Model g a o pasts length printed told state backX backY boxes frees bestFree bestTurned bestFirst bestSecond v spare past kept isKept text paper left top wide high original turn boxX boxY boxW boxH freeAtX freeAtY freeW freeH begins ends tried aside] (some (.int u)) := by
  refine b_start RX11 (by decide) rfl (Nat.le_of_ble_eq_true rfl) rfl ?_
  intro p e s m args below meth c A ls Q hQ hx hb hr hlk hml hown hT hK hA hw hl
  have hl : lv_has ls 1 [(0, .ref (a o))] := hl
  unfold f_X11_orientations at h
  refine lv_aload_n hx hb dX11_orientations_0 rfl (lv_at hl 0 rfl) ?_
  refine b_get hx hb hT hK hown fl_X11_7 hw 0 0 rfl rfl (v := .ref (a (o+1))) rfl dX11_orientations_1 ?_
  refine lv_bipush (v := 8) hx hb dX11_orientations_4 (by decide) ?_
  obtain ⟨x1, ex1, hix1, h⟩ := g_rd_some h
  refine b_iald hx hb hK hw 0 1 rfl (f := v) rfl hix1 ex1 dX11_orientations_6 ?_
  refine lv_iconst (v := 3) hx hb dX11_orientations_7 (by decide) ?_
  refine lv_icmp_ne (tgt := 16) hx hb dX11_orientations_8 (by decide) (fun hc8 => ?_) (fun hc8 => ?_)
  · rw [if_neg hc8] at h
    refine lv_aload_n hx hb dX11_orientations_16 rfl (lv_at hl 0 rfl) ?_
    refine b_get hx hb hT hK hown fl_X11_7 hw 0 0 rfl rfl (v := .ref (a (o+1))) rfl dX11_orientations_17 ?_
    refine lv_bipush (v := 8) hx hb dX11_orientations_20 (by decide) ?_
    obtain ⟨x2, ex2, hix2, h⟩ := g_rd_some h
    refine b_iald hx hb hK hw 0 1 rfl (f := v) rfl hix2 ex2 dX11_orientations_22 ?_
    refine lv_iconst (v := 2) hx hb dX11_orientations_23 (by decide) ?_
    refine lv_icmp_ne (tgt := 31) hx hb dX11_orientations_24 (by decide) (fun hc24 => ?_) (fun hc24 => ?_)
    · rw [if_neg hc24] at h
      refine lv_aload_n hx hb dX11_orientations_31 rfl (lv_at hl 0 rfl) ?_
      refine b_get hx hb hT hK hown fl_X11_7 hw 0 0 rfl rfl (v := .ref (a (o+1))) rfl dX11_orientations_32 ?_
      refine lv_bipush (v := 8) hx hb dX11_orientations_35 (by decide) ?_
      obtain ⟨x3, ex3, hix3, h⟩ := g_rd_some h
      refine b_iald hx hb hK hw 0 1 rfl (f := v) rfl hix3 ex3 dX11_orientations_37 ?_
      obtain rfl := Option.some.inj h
      exact b_iret hQ hx hb hr hlk hw rfl dX11_orientations_38
    · rw [if_pos hc24] at h
      refine lv_iconst (v := 4) hx hb dX11_orientations_27 (by decide) ?_
      refine lv_goto (tgt := 38) hx hb dX11_orientations_28 (by decide) ?_
      obtain rfl := Option.some.inj h
      exact b_iret hQ hx hb hr hlk hw rfl dX11_orientations_38
  · rw [if_pos hc8] at h
    refine lv_bipush (v := 8) hx hb dX11_orientations_11 (by decide) ?_
    refine lv_goto (tgt := 38) hx hb dX11_orientations_13 (by decide) ?_
    obtain rfl := Option.some.inj h
    exact b_iret hQ hx hb hr hlk hw rfl dX11_orientations_38
set_option maxRecDepth 100000 in
set_option maxHeartbeats 4000000 in
theorem c_X11_seeks (l : Launch) (D : va_G) (g : Nat → ClassId) (a : Nat → Nat) (o : Nat) (pasts : Int32) (length : Int32) (printed : Int32) (told : Int32) (state : Int64) (backX : Int32) (backY : Int32) (boxes : Int32) (frees : Int32) (bestFree : Int32) (bestTurned : Int32) (bestFirst : Int32) (bestSecond : Int32) (v : (Nat → Int32)) (spare : (Nat → Int32)) (past : (Nat → Int32)) (kept : (Nat → Int32)) (isKept : (Nat → Int32)) (text : (Nat → Int32)) (paper : (Nat → Int32)) (left : (Nat → Int32)) (top : (Nat → Int32)) (wide : (Nat → Int32)) (high : (Nat → Int32)) (original : (Nat → Int32)) (turn : (Nat → Int32)) (boxX : (Nat → Int32)) (boxY : (Nat → Int32)) (boxW : (Nat → Int32)) (boxH : (Nat → Int32)) (freeAtX : (Nat → Int32)) (freeAtY : (Nat → Int32)) (freeW : (Nat → Int32)) (freeH : (Nat → Int32)) (begins : (Nat → Int32)) (ends : (Nat → Int32)) (tried : (Nat → Int32)) (aside : (Nat → Int32)) (i1 : Int32) (u : Int32 × Int32 × (Nat → Int32) × (Nat → Int32)) (h : f_X11_seeks backX backY v left top wide high original turn i1 = some u) : b_Ct l yX11_seeks cX11_seeks 4 none 3 81 D g [.ref (a o), .int i1] [k_Model g a o pasts length printed told state backX backY boxes frees bestFree bestTurned bestFirst bestSecond v spare past kept isKept text paper left top wide high original turn boxX boxY boxW boxH freeAtX freeAtY freeW freeH begins ends tried aside] [k_Model g a o pasts length printed told state u.1 u.2.1 boxes frees bestFree bestTurned bestFirst bestSecond v spare past kept isKept text paper left top wide high u.2.2.1 u.2.2.2 boxX boxY boxW boxH freeAtX freeAtY freeW freeH begins ends tried aside] none := by
  refine b_start RX11 (by decide) rfl (Nat.le_of_ble_eq_true rfl) rfl ?_
  intro p e s m args below meth c A ls Q hQ hx hb hr hlk hml hown hT hK hA hw hl
  have hl : lv_has ls 4 [(0, .ref (a o)), (1, .int i1)] := hl
  unfold f_X11_seeks at h
  refine lv_aload_n hx hb dX11_seeks_0 rfl (lv_at hl 0 rfl) ?_
  refine b_get hx hb hT hK hown fl_X11_44 hw 0 0 rfl rfl (v := .ref (a (o+12))) rfl dX11_seeks_1 ?_
  refine lv_iload_n hx hb dX11_seeks_4 rfl (lv_at hl 1 rfl) ?_
  refine lv_iconst (v := -1) hx hb dX11_seeks_5 (by decide) ?_
  obtain ⟨f1, ef1, hif1, h⟩ := g_wr_some h
  refine b_iast hx hb hK hw 0 12 rfl (f := original) rfl hif1 ef1 rfl (wb' := [k_Model g a o pasts length printed told state backX backY boxes frees bestFree bestTurned bestFirst bestSecond v spare past kept isKept text paper left top wide high f1 turn boxX boxY boxW boxH freeAtX freeAtY freeW freeH begins ends tried aside]) rfl dX11_seeks_6 (fun H locs hw => ?_)
  refine lv_aload_n hx hb dX11_seeks_7 rfl (lv_at hl 0 rfl) ?_
  refine b_get hx hb hT hK hown fl_X11_47 hw 0 0 rfl rfl (v := .ref (a (o+13))) rfl dX11_seeks_8 ?_
  refine lv_iload_n hx hb dX11_seeks_11 rfl (lv_at hl 1 rfl) ?_
  refine lv_iconst (v := 0) hx hb dX11_seeks_12 (by decide) ?_
  obtain ⟨f2, ef2, hif2, h⟩ := g_wr_some h
  refine b_iast hx hb hK hw 0 13 rfl (f := turn) rfl hif2 ef2 rfl (wb' := [k_Model g a o pasts length printed told state backX backY boxes frees bestFree bestTurned bestFirst bestSecond v spare past kept isKept text paper left top wide high f1 f2 boxX boxY boxW boxH freeAtX freeAtY freeW freeH begins ends tried aside]) rfl dX11_seeks_13 (fun H locs hw => ?_)
  refine lv_iconst (v := 0) hx hb dX11_seeks_14 (by decide) ?_
  refine lv_istore_n (lv' := [(2, .int (0 : Int32)), (0, .ref (a o)), (1, .int i1)]) hx hb dX11_seeks_15 rfl hl (by decide) rfl (fun ls hl => ?_)
  have hL16 : ∀ (n : Nat) (x3 : Int32) (x4 : Int32) (x5 : Int32) (f6 : Nat → Int32) (f7 : Nat → Int32) (H : Heap) (locs : List Loc) (ls : Array Slot), b_Wd D A s.heap H locs [k_Model g a o pasts length printed told state x4 x5 boxes frees bestFree bestTurned bestFirst bestSecond v spare past kept isKept text paper left top wide high f6 f7 boxX boxY boxW boxH freeAtX freeAtY freeW freeH begins ends tried aside] → lv_has ls 4 [(0, .ref (a o)), (1, .int i1), (2, .int x3)] → f_X11_seeks_L16 v left top wide high i1 n x3 x4 x5 f6 f7 = some u → W p l e (g_rm 3 81) s m args below meth c H locs 0 0 Q (F0 m 16 ls []) := by
    intro n
    induction n with
    | zero =>
      intro x3 x4 x5 f6 f7 H locs ls hw hl h
      cases (show none = some u from h)
    | succ n ih16 =>
      intro x3 x4 x5 f6 f7 H locs ls hw hl h
      rw [f_X11_seeks_L16] at h
      refine lv_iload_n hx hb dX11_seeks_16 rfl (lv_at hl 2 rfl) ?_
      refine lv_iload_n hx hb dX11_seeks_17 rfl (lv_at hl 1 rfl) ?_
      refine lv_icmp_ge (tgt := 113) hx hb dX11_seeks_18 (by decide) (fun hc18 => ?_) (fun hc18 => ?_)
      · rw [if_pos hc18] at h
        obtain rfl := Option.some.inj h
        exact b_vret hQ hx hb hr hlk hw rfl dX11_seeks_113
      · rw [if_neg hc18] at h
        refine lv_aload_n hx hb dX11_seeks_21 rfl (lv_at hl 0 rfl) ?_
        refine b_get hx hb hT hK hown fl_X11_38 hw 0 0 rfl rfl (v := .ref (a (o+10))) rfl dX11_seeks_22 ?_
        refine lv_iload_n hx hb dX11_seeks_25 rfl (lv_at hl 1 rfl) ?_
        obtain ⟨x8, ex8, hix8, h⟩ := g_rd_some h
        refine b_iald hx hb hK hw 0 10 rfl (f := wide) rfl hix8 ex8 dX11_seeks_26 ?_
        refine lv_if_le (tgt := 113) hx hb dX11_seeks_27 (by decide) (fun hc27 => ?_) (fun hc27 => ?_)
        · rw [if_pos hc27] at h
          obtain rfl := Option.some.inj h
          exact b_vret hQ hx hb hr hlk hw rfl dX11_seeks_113
        · rw [if_neg hc27] at h
          refine lv_aload_n hx hb dX11_seeks_30 rfl (lv_at hl 0 rfl) ?_
          refine b_get hx hb hT hK hown fl_X11_44 hw 0 0 rfl rfl (v := .ref (a (o+12))) rfl dX11_seeks_31 ?_
          refine lv_iload_n hx hb dX11_seeks_34 rfl (lv_at hl 1 rfl) ?_
          obtain ⟨x9, ex9, hix9, h⟩ := g_rd_some h
          refine b_iald hx hb hK hw 0 12 rfl (f := f6) rfl hix9 ex9 dX11_seeks_35 ?_
          refine lv_if_ge (tgt := 113) hx hb dX11_seeks_36 (by decide) (fun hc36 => ?_) (fun hc36 => ?_)
          · rw [if_pos hc36] at h
            obtain rfl := Option.some.inj h
            exact b_vret hQ hx hb hr hlk hw rfl dX11_seeks_113
          · rw [if_neg hc36] at h
            refine lv_iconst (v := 0) hx hb dX11_seeks_39 (by decide) ?_
            refine lv_istore_n (lv' := [(3, .int (0 : Int32)), (0, .ref (a o)), (1, .int i1), (2, .int x3)]) hx hb dX11_seeks_40 rfl hl (by decide) rfl (fun ls hl => ?_)
            obtain ⟨k107_13, ek107_13, h⟩ := g_jn_nm h
            have hk107_13 : ∀ (x10 : Int32) (x11 : Int32) (f12 : Nat → Int32) (f13 : Nat → Int32) (H : Heap) (locs : List Loc) (ls : Array Slot), b_Wd D A s.heap H locs [k_Model g a o pasts length printed told state x10 x11 boxes frees bestFree bestTurned bestFirst bestSecond v spare past kept isKept text paper left top wide high f12 f13 boxX boxY boxW boxH freeAtX freeAtY freeW freeH begins ends tried aside] → lv_has ls 4 [(0, .ref (a o)), (1, .int i1), (2, .int x3)] → k107_13 x10 x11 f12 f13 = some u → W p l e (g_rm 3 81) s m args below meth c H locs 0 0 Q (F0 m 107 ls []) := by
              intro x10 x11 f12 f13 H locs ls hw hl h
              subst ek107_13
              dsimp only at h
              obtain ⟨x15, ex15, h⟩ := g_bd_nm h
              refine lv_iinc (v := x15) (lv' := [(2, .int x15), (0, .ref (a o)), (1, .int i1)]) hx hb dX11_seeks_107 hl (k := 2) rfl (by rw [ex15]; rfl) (by decide) rfl (fun ls hl => ?_)
              refine lv_goto (tgt := 16) hx hb dX11_seeks_110 (by decide) ?_
              exact ih16 x15 x10 x11 f12 f13 _ _ _ hw (lv_sub hl [1, 2, 0] rfl) h
            have hL41 : ∀ (n : Nat) (x16 : Int32) (x17 : Int32) (x18 : Int32) (f19 : Nat → Int32) (f20 : Nat → Int32) (H : Heap) (locs : List Loc) (ls : Array Slot), b_Wd D A s.heap H locs [k_Model g a o pasts length printed told state x17 x18 boxes frees bestFree bestTurned bestFirst bestSecond v spare past kept isKept text paper left top wide high f19 f20 boxX boxY boxW boxH freeAtX freeAtY freeW freeH begins ends tried aside] → lv_has ls 4 [(0, .ref (a o)), (1, .int i1), (2, .int x3), (3, .int x16)] → f_X11_seeks_L41 v left top wide high i1 x3 k107_13 n x16 x17 x18 f19 f20 = some u → W p l e (g_rm 3 81) s m args below meth c H locs 0 0 Q (F0 m 41 ls []) := by
              intro n
              induction n with
              | zero =>
                intro x16 x17 x18 f19 f20 H locs ls hw hl h
                cases (show none = some u from h)
              | succ n ih41 =>
                intro x16 x17 x18 f19 f20 H locs ls hw hl h
                rw [f_X11_seeks_L41] at h
                refine lv_iload_n hx hb dX11_seeks_41 rfl (lv_at hl 3 rfl) ?_
                refine lv_aload_n hx hb dX11_seeks_42 rfl (lv_at hl 0 rfl) ?_
                obtain ⟨r21, er21, h⟩ := g_cl_some h
                refine b_callV hx hb hml hown hT hK hA hw mk_X11_162 (c_X11_orientations l D g a o pasts length printed told state x17 x18 boxes frees bestFree bestTurned bestFirst bestSecond v spare past kept isKept text paper left top wide high f19 f20 boxX boxY boxW boxH freeAtX freeAtY freeW freeH begins ends tried aside r21 er21) [0] [] rfl (by decide) 0 0 rfl rfl rfl rfl hl.1 [.int x16] rfl (Nat.le_of_ble_eq_true rfl) ⟨Nat.le_of_ble_eq_true rfl, Nat.le_of_ble_eq_true rfl⟩ ⟨Nat.zero_le _, Nat.zero_le _⟩ dX11_seeks_43 (wb' := [k_Model g a o pasts length printed told state x17 x18 boxes frees bestFree bestTurned bestFirst bestSecond v spare past kept isKept text paper left top wide high f19 f20 boxX boxY boxW boxH freeAtX freeAtY freeW freeH begins ends tried aside]) rfl b_e0 1 rfl (by decide) (st2 := [.int r21, .int x16]) rfl (fun H locs hw => ?_)
                refine lv_icmp_ge (tgt := 107) hx hb dX11_seeks_46 (by decide) (fun hc46 => ?_) (fun hc46 => ?_)
                · rw [if_pos hc46] at h
                  exact hk107_13 x17 x18 f19 f20 _ _ _ hw (lv_sub hl [0, 1, 2] rfl) h
                · rw [if_neg hc46] at h
                  refine lv_aload_n hx hb dX11_seeks_49 rfl (lv_at hl 0 rfl) ?_
                  refine b_get hx hb hT hK hown fl_X11_44 hw 0 0 rfl rfl (v := .ref (a (o+12))) rfl dX11_seeks_50 ?_
                  refine lv_iload_n hx hb dX11_seeks_53 rfl (lv_at hl 1 rfl) ?_
                  obtain ⟨x22, ex22, hix22, h⟩ := g_rd_some h
                  refine b_iald hx hb hK hw 0 12 rfl (f := f19) rfl hix22 ex22 dX11_seeks_54 ?_
                  refine lv_if_ge (tgt := 107) hx hb dX11_seeks_55 (by decide) (fun hc55 => ?_) (fun hc55 => ?_)
                  · rw [if_pos hc55] at h
                    exact hk107_13 x17 x18 f19 f20 _ _ _ hw (lv_sub hl [0, 1, 2] rfl) h
                  · rw [if_neg hc55] at h
                    refine lv_aload_n hx hb dX11_seeks_58 rfl (lv_at hl 0 rfl) ?_
                    refine b_get hx hb hT hK hown fl_X11_38 hw 0 0 rfl rfl (v := .ref (a (o+10))) rfl dX11_seeks_59 ?_
                    refine lv_iload_n hx hb dX11_seeks_62 rfl (lv_at hl 2 rfl) ?_
                    obtain ⟨x23, ex23, hix23, h⟩ := g_rd_some h
                    refine b_iald hx hb hK hw 0 10 rfl (f := wide) rfl hix23 ex23 dX11_seeks_63 ?_
                    obtain ⟨j101_27, ej101_27, h⟩ := g_jn_nm h
                    have hj101_27 : ∀ (x24 : Int32) (x25 : Int32) (f26 : Nat → Int32) (f27 : Nat → Int32) (H : Heap) (locs : List Loc) (ls : Array Slot), b_Wd D A s.heap H locs [k_Model g a o pasts length printed told state x24 x25 boxes frees bestFree bestTurned bestFirst bestSecond v spare past kept isKept text paper left top wide high f26 f27 boxX boxY boxW boxH freeAtX freeAtY freeW freeH begins ends tried aside] → lv_has ls 4 [(0, .ref (a o)), (1, .int i1), (2, .int x3), (3, .int x16)] → j101_27 x24 x25 f26 f27 = some u → W p l e (g_rm 3 81) s m args below meth c H locs 0 0 Q (F0 m 101 ls []) := by
                      intro x24 x25 f26 f27 H locs ls hw hl h
                      subst ej101_27
                      dsimp only at h
                      obtain ⟨x29, ex29, h⟩ := g_bd_nm h
                      refine lv_iinc (v := x29) (lv' := [(3, .int x29), (0, .ref (a o)), (1, .int i1), (2, .int x3)]) hx hb dX11_seeks_101 hl (k := 3) rfl (by rw [ex29]; rfl) (by decide) rfl (fun ls hl => ?_)
                      refine lv_goto (tgt := 41) hx hb dX11_seeks_104 (by decide) ?_
                      exact ih41 x29 x24 x25 f26 f27 _ _ _ hw (lv_sub hl [1, 2, 3, 0] rfl) h
                    refine lv_if_le (tgt := 101) hx hb dX11_seeks_64 (by decide) (fun hc64 => ?_) (fun hc64 => ?_)
                    · rw [if_pos hc64] at h
                      exact hj101_27 x17 x18 f19 f20 _ _ _ hw (lv_sub hl [0, 1, 2, 3] rfl) h
                    · rw [if_neg hc64] at h
                      refine lv_aload_n hx hb dX11_seeks_67 rfl (lv_at hl 0 rfl) ?_
                      refine b_get hx hb hT hK hown fl_X11_44 hw 0 0 rfl rfl (v := .ref (a (o+12))) rfl dX11_seeks_68 ?_
                      refine lv_iload_n hx hb dX11_seeks_71 rfl (lv_at hl 2 rfl) ?_
                      obtain ⟨x30, ex30, hix30, h⟩ := g_rd_some h
                      refine b_iald hx hb hK hw 0 12 rfl (f := f19) rfl hix30 ex30 dX11_seeks_72 ?_
                      refine lv_if_ge (tgt := 101) hx hb dX11_seeks_73 (by decide) (fun hc73 => ?_) (fun hc73 => ?_)
                      · rw [if_pos hc73] at h
                        exact hj101_27 x17 x18 f19 f20 _ _ _ hw (lv_sub hl [0, 1, 2, 3] rfl) h
                      · rw [if_neg hc73] at h
                        refine lv_aload_n hx hb dX11_seeks_76 rfl (lv_at hl 0 rfl) ?_
                        refine lv_iload_n hx hb dX11_seeks_77 rfl (lv_at hl 1 rfl) ?_
                        refine lv_iload_n hx hb dX11_seeks_78 rfl (lv_at hl 2 rfl) ?_
                        refine lv_iconst (v := 0) hx hb dX11_seeks_79 (by decide) ?_
                        refine lv_iload_n hx hb dX11_seeks_80 rfl (lv_at hl 3 rfl) ?_
                        obtain ⟨r31, er31, h⟩ := g_cl_some h
                        refine b_callV hx hb hml hown hT hK hA hw mk_X11_165 (c_X11_isLike l D g a o pasts length printed told state x17 x18 boxes frees bestFree bestTurned bestFirst bestSecond v spare past kept isKept text paper left top wide high f19 f20 boxX boxY boxW boxH freeAtX freeAtY freeW freeH begins ends tried aside i1 x3 (0 : Int32) x16 r31 er31) [0] [] rfl (by decide) 0 0 rfl rfl rfl rfl hl.1 [] rfl (Nat.le_of_ble_eq_true rfl) ⟨Nat.le_of_ble_eq_true rfl, Nat.le_of_ble_eq_true rfl⟩ ⟨Nat.zero_le _, Nat.zero_le _⟩ dX11_seeks_81 (wb' := [k_Model g a o pasts length printed told state r31.2.1 r31.2.2 boxes frees bestFree bestTurned bestFirst bestSecond v spare past kept isKept text paper left top wide high f19 f20 boxX boxY boxW boxH freeAtX freeAtY freeW freeH begins ends tried aside]) rfl b_e0 1 rfl (by decide) (st2 := [.int r31.1]) rfl (fun H locs hw => ?_)
                        refine lv_if_eq (tgt := 101) hx hb dX11_seeks_84 (by decide) (fun hc84 => ?_) (fun hc84 => ?_)
                        · rw [if_pos hc84] at h
                          exact hj101_27 r31.2.1 r31.2.2 f19 f20 _ _ _ hw (lv_sub hl [0, 1, 2, 3] rfl) h
                        · rw [if_neg hc84] at h
                          refine lv_aload_n hx hb dX11_seeks_87 rfl (lv_at hl 0 rfl) ?_
                          refine b_get hx hb hT hK hown fl_X11_44 hw 0 0 rfl rfl (v := .ref (a (o+12))) rfl dX11_seeks_88 ?_
                          refine lv_iload_n hx hb dX11_seeks_91 rfl (lv_at hl 1 rfl) ?_
                          refine lv_iload_n hx hb dX11_seeks_92 rfl (lv_at hl 2 rfl) ?_
                          obtain ⟨f32, ef32, hif32, h⟩ := g_wr_some h
                          refine b_iast hx hb hK hw 0 12 rfl (f := f19) rfl hif32 ef32 rfl (wb' := [k_Model g a o pasts length printed told state r31.2.1 r31.2.2 boxes frees bestFree bestTurned bestFirst bestSecond v spare past kept isKept text paper left top wide high f32 f20 boxX boxY boxW boxH freeAtX freeAtY freeW freeH begins ends tried aside]) rfl dX11_seeks_93 (fun H locs hw => ?_)
                          refine lv_aload_n hx hb dX11_seeks_94 rfl (lv_at hl 0 rfl) ?_
                          refine b_get hx hb hT hK hown fl_X11_47 hw 0 0 rfl rfl (v := .ref (a (o+13))) rfl dX11_seeks_95 ?_
                          refine lv_iload_n hx hb dX11_seeks_98 rfl (lv_at hl 1 rfl) ?_
                          refine lv_iload_n hx hb dX11_seeks_99 rfl (lv_at hl 3 rfl) ?_
                          obtain ⟨f33, ef33, hif33, h⟩ := g_wr_some h
                          refine b_iast hx hb hK hw 0 13 rfl (f := f20) rfl hif33 ef33 rfl (wb' := [k_Model g a o pasts length printed told state r31.2.1 r31.2.2 boxes frees bestFree bestTurned bestFirst bestSecond v spare past kept isKept text paper left top wide high f32 f33 boxX boxY boxW boxH freeAtX freeAtY freeW freeH begins ends tried aside]) rfl dX11_seeks_100 (fun H locs hw => ?_)
                          exact hj101_27 r31.2.1 r31.2.2 f32 f33 _ _ _ hw (lv_sub hl [0, 1, 2, 3] rfl) h
            exact hL41 g_fuel (0 : Int32) x4 x5 f6 f7 _ _ _ hw (lv_sub hl [1, 2, 3, 0] rfl) h
  exact hL16 g_fuel (0 : Int32) backX backY f1 f2 _ _ _ hw (lv_sub hl [1, 2, 0] rfl) h
set_option maxRecDepth 100000 in
set_option maxHeartbeats 4000000 in
theorem c_X11_knows (l : Launch) (D : va_G) (g : Nat → ClassId) (a : Nat → Nat) (o : Nat) (pasts : Int32) (length : Int32) (printed : Int32) (told : Int32) (state : Int64) (backX : Int32) (backY : Int32) (boxes : Int32) (frees : Int32) (bestFree : Int32) (bestTurned : Int32) (bestFirst : Int32) (bestSecond : Int32) (v : (Nat → Int32)) (spare : (Nat → Int32)) (past : (Nat → Int32)) (kept : (Nat → Int32)) (isKept : (Nat → Int32)) (text : (Nat → Int32)) (paper : (Nat → Int32)) (left : (Nat → Int32)) (top : (Nat → Int32)) (wide : (Nat → Int32)) (high : (Nat → Int32)) (original : (Nat → Int32)) (turn : (Nat → Int32)) (boxX : (Nat → Int32)) (boxY : (Nat → Int32)) (boxW : (Nat → Int32)) (boxH : (Nat → Int32)) (freeAtX : (Nat → Int32)) (freeAtY : (Nat → Int32)) (freeW : (Nat → Int32)) (freeH : (Nat → Int32)) (begins : (Nat → Int32)) (ends : (Nat → Int32)) (tried : (Nat → Int32)) (aside : (Nat → Int32)) (u : Int32 × Int32 × (Nat → Int32) × (Nat → Int32) × (Nat → Int32) × (Nat → Int32) × (Nat → Int32) × (Nat → Int32)) (h : f_X11_knows backX backY v left top wide high original turn = some u) : b_Ct l yX11_knows cX11_knows 2 none 4 104 D g [.ref (a o)] [k_Model g a o pasts length printed told state backX backY boxes frees bestFree bestTurned bestFirst bestSecond v spare past kept isKept text paper left top wide high original turn boxX boxY boxW boxH freeAtX freeAtY freeW freeH begins ends tried aside] [k_Model g a o pasts length printed told state u.1 u.2.1 boxes frees bestFree bestTurned bestFirst bestSecond v spare past kept isKept text paper u.2.2.1 u.2.2.2.1 u.2.2.2.2.1 u.2.2.2.2.2.1 u.2.2.2.2.2.2.1 u.2.2.2.2.2.2.2 boxX boxY boxW boxH freeAtX freeAtY freeW freeH begins ends tried aside] none := by
  refine b_start RX11 (by decide) rfl (Nat.le_of_ble_eq_true rfl) rfl ?_
  intro p e s m args below meth c A ls Q hQ hx hb hr hlk hml hown hT hK hA hw hl
  have hl : lv_has ls 2 [(0, .ref (a o))] := hl
  unfold f_X11_knows at h
  refine lv_iconst (v := 0) hx hb dX11_knows_0 (by decide) ?_
  refine lv_istore_n (lv' := [(1, .int (0 : Int32)), (0, .ref (a o))]) hx hb dX11_knows_1 rfl hl (by decide) rfl (fun ls hl => ?_)
  have hL2 : ∀ (n : Nat) (x1 : Int32) (x2 : Int32) (x3 : Int32) (f4 : Nat → Int32) (f5 : Nat → Int32) (f6 : Nat → Int32) (f7 : Nat → Int32) (f8 : Nat → Int32) (f9 : Nat → Int32) (H : Heap) (locs : List Loc) (ls : Array Slot), b_Wd D A s.heap H locs [k_Model g a o pasts length printed told state x2 x3 boxes frees bestFree bestTurned bestFirst bestSecond v spare past kept isKept text paper f4 f5 f6 f7 f8 f9 boxX boxY boxW boxH freeAtX freeAtY freeW freeH begins ends tried aside] → lv_has ls 2 [(0, .ref (a o)), (1, .int x1)] → f_X11_knows_L2 v n x1 x2 x3 f4 f5 f6 f7 f8 f9 = some u → W p l e (g_rm 4 104) s m args below meth c H locs 0 0 Q (F0 m 2 ls []) := by
    intro n
    induction n with
    | zero =>
      intro x1 x2 x3 f4 f5 f6 f7 f8 f9 H locs ls hw hl h
      cases (show none = some u from h)
    | succ n ih2 =>
      intro x1 x2 x3 f4 f5 f6 f7 f8 f9 H locs ls hw hl h
      rw [f_X11_knows_L2] at h
      refine lv_iload_n hx hb dX11_knows_2 rfl (lv_at hl 1 rfl) ?_
      refine lv_aload_n hx hb dX11_knows_3 rfl (lv_at hl 0 rfl) ?_
      refine b_get hx hb hT hK hown fl_X11_7 hw 0 0 rfl rfl (v := .ref (a (o+1))) rfl dX11_knows_4 ?_
      refine lv_iconst (v := 0) hx hb dX11_knows_7 (by decide) ?_
      obtain ⟨x10, ex10, hix10, h⟩ := g_rd_some h
      refine b_iald hx hb hK hw 0 1 rfl (f := v) rfl hix10 ex10 dX11_knows_8 ?_
      refine lv_icmp_ge (tgt := 28) hx hb dX11_knows_9 (by decide) (fun hc9 => ?_) (fun hc9 => ?_)
      · rw [if_pos hc9] at h
        obtain rfl := Option.some.inj h
        exact b_vret hQ hx hb hr hlk hw rfl dX11_knows_28
      · rw [if_neg hc9] at h
        refine lv_aload_n hx hb dX11_knows_12 rfl (lv_at hl 0 rfl) ?_
        refine lv_iload_n hx hb dX11_knows_13 rfl (lv_at hl 1 rfl) ?_
        obtain ⟨r11, er11, h⟩ := g_cl_some h
        refine b_callV hx hb hml hown hT hK hA hw mk_X11_169 (c_X11_trims l D g a o pasts length printed told state x2 x3 boxes frees bestFree bestTurned bestFirst bestSecond v spare past kept isKept text paper f4 f5 f6 f7 f8 f9 boxX boxY boxW boxH freeAtX freeAtY freeW freeH begins ends tried aside x1 r11 er11) [0] [] rfl (by decide) 0 0 rfl rfl rfl rfl hl.1 [] rfl (Nat.le_of_ble_eq_true rfl) ⟨Nat.le_of_ble_eq_true rfl, Nat.le_of_ble_eq_true rfl⟩ ⟨Nat.zero_le _, Nat.zero_le _⟩ dX11_knows_14 (wb' := [k_Model g a o pasts length printed told state x2 x3 boxes frees bestFree bestTurned bestFirst bestSecond v spare past kept isKept text paper r11.1 r11.2.1 r11.2.2.1 r11.2.2.2 f8 f9 boxX boxY boxW boxH freeAtX freeAtY freeW freeH begins ends tried aside]) rfl b_e0 1 rfl (by decide) (st2 := []) rfl (fun H locs hw => ?_)
        refine lv_aload_n hx hb dX11_knows_17 rfl (lv_at hl 0 rfl) ?_
        refine lv_iload_n hx hb dX11_knows_18 rfl (lv_at hl 1 rfl) ?_
        obtain ⟨r12, er12, h⟩ := g_cl_some h
        refine b_callV hx hb hml hown hT hK hA hw mk_X11_173 (c_X11_seeks l D g a o pasts length printed told state x2 x3 boxes frees bestFree bestTurned bestFirst bestSecond v spare past kept isKept text paper r11.1 r11.2.1 r11.2.2.1 r11.2.2.2 f8 f9 boxX boxY boxW boxH freeAtX freeAtY freeW freeH begins ends tried aside x1 r12 er12) [0] [] rfl (by decide) 0 0 rfl rfl rfl rfl hl.1 [] rfl (Nat.le_of_ble_eq_true rfl) ⟨Nat.le_of_ble_eq_true rfl, Nat.le_of_ble_eq_true rfl⟩ ⟨Nat.zero_le _, Nat.zero_le _⟩ dX11_knows_19 (wb' := [k_Model g a o pasts length printed told state r12.1 r12.2.1 boxes frees bestFree bestTurned bestFirst bestSecond v spare past kept isKept text paper r11.1 r11.2.1 r11.2.2.1 r11.2.2.2 r12.2.2.1 r12.2.2.2 boxX boxY boxW boxH freeAtX freeAtY freeW freeH begins ends tried aside]) rfl b_e0 1 rfl (by decide) (st2 := []) rfl (fun H locs hw => ?_)
        obtain ⟨x13, ex13, h⟩ := g_bd_nm h
        refine lv_iinc (v := x13) (lv' := [(1, .int x13), (0, .ref (a o))]) hx hb dX11_knows_22 hl (k := 1) rfl (by rw [ex13]; rfl) (by decide) rfl (fun ls hl => ?_)
        refine lv_goto (tgt := 2) hx hb dX11_knows_25 (by decide) ?_
        exact ih2 x13 r12.1 r12.2.1 r11.1 r11.2.1 r11.2.2.1 r11.2.2.2 r12.2.2.1 r12.2.2.2 _ _ _ hw (lv_sub hl [1, 0] rfl) h
  exact hL2 g_fuel (0 : Int32) backX backY left top wide high original turn _ _ _ hw (lv_sub hl [1, 0] rfl) h
set_option maxRecDepth 100000 in
set_option maxHeartbeats 4000000 in
theorem c_X11_isOriginal (l : Launch) (D : va_G) (g : Nat → ClassId) (a : Nat → Nat) (o : Nat) (pasts : Int32) (length : Int32) (printed : Int32) (told : Int32) (state : Int64) (backX : Int32) (backY : Int32) (boxes : Int32) (frees : Int32) (bestFree : Int32) (bestTurned : Int32) (bestFirst : Int32) (bestSecond : Int32) (v : (Nat → Int32)) (spare : (Nat → Int32)) (past : (Nat → Int32)) (kept : (Nat → Int32)) (isKept : (Nat → Int32)) (text : (Nat → Int32)) (paper : (Nat → Int32)) (left : (Nat → Int32)) (top : (Nat → Int32)) (wide : (Nat → Int32)) (high : (Nat → Int32)) (original : (Nat → Int32)) (turn : (Nat → Int32)) (boxX : (Nat → Int32)) (boxY : (Nat → Int32)) (boxW : (Nat → Int32)) (boxH : (Nat → Int32)) (freeAtX : (Nat → Int32)) (freeAtY : (Nat → Int32)) (freeW : (Nat → Int32)) (freeH : (Nat → Int32)) (begins : (Nat → Int32)) (ends : (Nat → Int32)) (tried : (Nat → Int32)) (aside : (Nat → Int32)) (i1 : Int32) (u : Int32) (h : f_X11_isOriginal wide original i1 = some u) : b_Ct l yX11_isOriginal cX11_isOriginal 2 (some .boolean) 0 0 D g [.ref (a o), .int i1] [k_Model g a o pasts length printed told state backX backY boxes frees bestFree bestTurned bestFirst bestSecond v spare past kept isKept text paper left top wide high original turn boxX boxY boxW boxH freeAtX freeAtY freeW freeH begins ends tried aside] [k_Model g a o pasts length printed told state backX backY boxes frees bestFree bestTurned bestFirst bestSecond v spare past kept isKept text paper left top wide high original turn boxX boxY boxW boxH freeAtX freeAtY freeW freeH begins ends tried aside] (some (.int u)) := by
  refine b_start RX11 (by decide) rfl (Nat.le_of_ble_eq_true rfl) rfl ?_
  intro p e s m args below meth c A ls Q hQ hx hb hr hlk hml hown hT hK hA hw hl
  have hl : lv_has ls 2 [(0, .ref (a o)), (1, .int i1)] := hl
  unfold f_X11_isOriginal at h
  refine lv_aload_n hx hb dX11_isOriginal_0 rfl (lv_at hl 0 rfl) ?_
  refine b_get hx hb hT hK hown fl_X11_38 hw 0 0 rfl rfl (v := .ref (a (o+10))) rfl dX11_isOriginal_1 ?_
  refine lv_iload_n hx hb dX11_isOriginal_4 rfl (lv_at hl 1 rfl) ?_
  obtain ⟨x1, ex1, hix1, h⟩ := g_rd_some h
  refine b_iald hx hb hK hw 0 10 rfl (f := wide) rfl hix1 ex1 dX11_isOriginal_5 ?_
  refine lv_if_le (tgt := 22) hx hb dX11_isOriginal_6 (by decide) (fun hc6 => ?_) (fun hc6 => ?_)
  · rw [if_pos hc6] at h
    refine lv_iconst (v := 0) hx hb dX11_isOriginal_22 (by decide) ?_
    obtain rfl := Option.some.inj h
    exact b_zret hQ hx hb hr hlk (Or.inl rfl) hw rfl dX11_isOriginal_23
  · rw [if_neg hc6] at h
    refine lv_aload_n hx hb dX11_isOriginal_9 rfl (lv_at hl 0 rfl) ?_
    refine b_get hx hb hT hK hown fl_X11_44 hw 0 0 rfl rfl (v := .ref (a (o+12))) rfl dX11_isOriginal_10 ?_
    refine lv_iload_n hx hb dX11_isOriginal_13 rfl (lv_at hl 1 rfl) ?_
    obtain ⟨x2, ex2, hix2, h⟩ := g_rd_some h
    refine b_iald hx hb hK hw 0 12 rfl (f := original) rfl hix2 ex2 dX11_isOriginal_14 ?_
    refine lv_if_ge (tgt := 22) hx hb dX11_isOriginal_15 (by decide) (fun hc15 => ?_) (fun hc15 => ?_)
    · rw [if_pos hc15] at h
      refine lv_iconst (v := 0) hx hb dX11_isOriginal_22 (by decide) ?_
      obtain rfl := Option.some.inj h
      exact b_zret hQ hx hb hr hlk (Or.inl rfl) hw rfl dX11_isOriginal_23
    · rw [if_neg hc15] at h
      refine lv_iconst (v := 1) hx hb dX11_isOriginal_18 (by decide) ?_
      refine lv_goto (tgt := 23) hx hb dX11_isOriginal_19 (by decide) ?_
      obtain rfl := Option.some.inj h
      exact b_zret hQ hx hb hr hlk (Or.inr rfl) hw rfl dX11_isOriginal_23
set_option maxRecDepth 100000 in
set_option maxHeartbeats 4000000 in
theorem c_X11_trimLeft (l : Launch) (D : va_G) (g : Nat → ClassId) (a : Nat → Nat) (o : Nat) (pasts : Int32) (length : Int32) (printed : Int32) (told : Int32) (state : Int64) (backX : Int32) (backY : Int32) (boxes : Int32) (frees : Int32) (bestFree : Int32) (bestTurned : Int32) (bestFirst : Int32) (bestSecond : Int32) (v : (Nat → Int32)) (spare : (Nat → Int32)) (past : (Nat → Int32)) (kept : (Nat → Int32)) (isKept : (Nat → Int32)) (text : (Nat → Int32)) (paper : (Nat → Int32)) (left : (Nat → Int32)) (top : (Nat → Int32)) (wide : (Nat → Int32)) (high : (Nat → Int32)) (original : (Nat → Int32)) (turn : (Nat → Int32)) (boxX : (Nat → Int32)) (boxY : (Nat → Int32)) (boxW : (Nat → Int32)) (boxH : (Nat → Int32)) (freeAtX : (Nat → Int32)) (freeAtY : (Nat → Int32)) (freeW : (Nat → Int32)) (freeH : (Nat → Int32)) (begins : (Nat → Int32)) (ends : (Nat → Int32)) (tried : (Nat → Int32)) (aside : (Nat → Int32)) (i1 : Int32) (u : Int32 × Int32 × Int32 × (Nat → Int32) × (Nat → Int32) × (Nat → Int32) × (Nat → Int32) × (Nat → Int32) × (Nat → Int32)) (h : f_X11_trimLeft backX backY v left top wide high original turn i1 = some u) : b_Ct l yX11_trimLeft cX11_trimLeft 2 (some .int) 5 125 D g [.ref (a o), .int i1] [k_Model g a o pasts length printed told state backX backY boxes frees bestFree bestTurned bestFirst bestSecond v spare past kept isKept text paper left top wide high original turn boxX boxY boxW boxH freeAtX freeAtY freeW freeH begins ends tried aside] [k_Model g a o pasts length printed told state u.2.1 u.2.2.1 boxes frees bestFree bestTurned bestFirst bestSecond v spare past kept isKept text paper u.2.2.2.1 u.2.2.2.2.1 u.2.2.2.2.2.1 u.2.2.2.2.2.2.1 u.2.2.2.2.2.2.2.1 u.2.2.2.2.2.2.2.2 boxX boxY boxW boxH freeAtX freeAtY freeW freeH begins ends tried aside] (some (.int u.1)) := by
  refine b_start RX11 (by decide) rfl (Nat.le_of_ble_eq_true rfl) rfl ?_
  intro p e s m args below meth c A ls Q hQ hx hb hr hlk hml hown hT hK hA hw hl
  have hl : lv_has ls 2 [(0, .ref (a o)), (1, .int i1)] := hl
  unfold f_X11_trimLeft at h
  refine lv_aload_n hx hb dX11_trimLeft_0 rfl (lv_at hl 0 rfl) ?_
  refine lv_iload_n hx hb dX11_trimLeft_1 rfl (lv_at hl 1 rfl) ?_
  obtain ⟨r1, er1, h⟩ := g_cl_some h
  refine b_callV hx hb hml hown hT hK hA hw mk_X11_138 (c_X11_isSprite l D g a o pasts length printed told state backX backY boxes frees bestFree bestTurned bestFirst bestSecond v spare past kept isKept text paper left top wide high original turn boxX boxY boxW boxH freeAtX freeAtY freeW freeH begins ends tried aside i1 r1 er1) [0] [] rfl (by decide) 0 0 rfl rfl rfl rfl hl.1 [] rfl (Nat.le_of_ble_eq_true rfl) ⟨Nat.le_of_ble_eq_true rfl, Nat.le_of_ble_eq_true rfl⟩ ⟨Nat.zero_le _, Nat.zero_le _⟩ dX11_trimLeft_2 (wb' := [k_Model g a o pasts length printed told state backX backY boxes frees bestFree bestTurned bestFirst bestSecond v spare past kept isKept text paper left top wide high original turn boxX boxY boxW boxH freeAtX freeAtY freeW freeH begins ends tried aside]) rfl b_e0 1 rfl (by decide) (st2 := [.int r1]) rfl (fun H locs hw => ?_)
  refine lv_if_ne (tgt := 10) hx hb dX11_trimLeft_5 (by decide) (fun hc5 => ?_) (fun hc5 => ?_)
  · rw [if_neg hc5] at h
    refine lv_aload_n hx hb dX11_trimLeft_10 rfl (lv_at hl 0 rfl) ?_
    obtain ⟨r2, er2, h⟩ := g_cl_some h
    refine b_callV hx hb hml hown hT hK hA hw mk_X11_176 (c_X11_knows l D g a o pasts length printed told state backX backY boxes frees bestFree bestTurned bestFirst bestSecond v spare past kept isKept text paper left top wide high original turn boxX boxY boxW boxH freeAtX freeAtY freeW freeH begins ends tried aside r2 er2) [0] [] rfl (by decide) 0 0 rfl rfl rfl rfl hl.1 [] rfl (Nat.le_of_ble_eq_true rfl) ⟨Nat.le_of_ble_eq_true rfl, Nat.le_of_ble_eq_true rfl⟩ ⟨Nat.zero_le _, Nat.zero_le _⟩ dX11_trimLeft_11 (wb' := [k_Model g a o pasts length printed told state r2.1 r2.2.1 boxes frees bestFree bestTurned bestFirst bestSecond v spare past kept isKept text paper r2.2.2.1 r2.2.2.2.1 r2.2.2.2.2.1 r2.2.2.2.2.2.1 r2.2.2.2.2.2.2.1 r2.2.2.2.2.2.2.2 boxX boxY boxW boxH freeAtX freeAtY freeW freeH begins ends tried aside]) rfl b_e0 1 rfl (by decide) (st2 := []) rfl (fun H locs hw => ?_)
    refine lv_aload_n hx hb dX11_trimLeft_14 rfl (lv_at hl 0 rfl) ?_
    refine b_get hx hb hT hK hown fl_X11_38 hw 0 0 rfl rfl (v := .ref (a (o+10))) rfl dX11_trimLeft_15 ?_
    refine lv_iload_n hx hb dX11_trimLeft_18 rfl (lv_at hl 1 rfl) ?_
    obtain ⟨x3, ex3, hix3, h⟩ := g_rd_some h
    refine b_iald hx hb hK hw 0 10 rfl (f := r2.2.2.2.2.1) rfl hix3 ex3 dX11_trimLeft_19 ?_
    refine lv_if_ne (tgt := 28) hx hb dX11_trimLeft_20 (by decide) (fun hc20 => ?_) (fun hc20 => ?_)
    · rw [if_neg hc20] at h
      refine lv_aload_n hx hb dX11_trimLeft_28 rfl (lv_at hl 0 rfl) ?_
      refine b_get hx hb hT hK hown fl_X11_32 hw 0 0 rfl rfl (v := .ref (a (o+8))) rfl dX11_trimLeft_29 ?_
      refine lv_iload_n hx hb dX11_trimLeft_32 rfl (lv_at hl 1 rfl) ?_
      obtain ⟨x4, ex4, hix4, h⟩ := g_rd_some h
      refine b_iald hx hb hK hw 0 8 rfl (f := r2.2.2.1) rfl hix4 ex4 dX11_trimLeft_33 ?_
      obtain rfl := Option.some.inj h
      exact b_iret hQ hx hb hr hlk hw rfl dX11_trimLeft_34
    · rw [if_pos hc20] at h
      refine lv_bipush (v := -4) hx hb dX11_trimLeft_23 (by decide) ?_
      refine lv_goto (tgt := 34) hx hb dX11_trimLeft_25 (by decide) ?_
      obtain rfl := Option.some.inj h
      exact b_iret hQ hx hb hr hlk hw rfl dX11_trimLeft_34
  · rw [if_pos hc5] at h
    refine lv_iconst (v := -1) hx hb dX11_trimLeft_8 (by decide) ?_
    obtain rfl := Option.some.inj h
    exact b_iret hQ hx hb hr hlk hw rfl dX11_trimLeft_9
