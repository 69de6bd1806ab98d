set_option maxRecDepth 100000 in
set_option maxHeartbeats 4000000 in
theorem c_X11_read (l : Launch) (D : va_G) (g : Nat → ClassId) (a : Nat → Nat) (o : Nat) (pasts : Int32) (length : Int32) (printed : Int32) (told : Int32) (state : Int64) (backX : Int32) (backY : Int32) (boxes : Int32) (frees : Int32) (bestFree : Int32) (bestTurned : Int32) (bestFirst : Int32) (bestSecond : Int32) (v : (Nat → Int32)) (spare : (Nat → Int32)) (past : (Nat → Int32)) (kept : (Nat → Int32)) (isKept : (Nat → Int32)) (text : (Nat → Int32)) (paper : (Nat → Int32)) (left : (Nat → Int32)) (top : (Nat → Int32)) (wide : (Nat → Int32)) (high : (Nat → Int32)) (original : (Nat → Int32)) (turn : (Nat → Int32)) (boxX : (Nat → Int32)) (boxY : (Nat → Int32)) (boxW : (Nat → Int32)) (boxH : (Nat → Int32)) (freeAtX : (Nat → Int32)) (freeAtY : (Nat → Int32)) (freeW : (Nat → Int32)) (freeH : (Nat → Int32)) (begins : (Nat → Int32)) (ends : (Nat → Int32)) (tried : (Nat → Int32)) (aside : (Nat → Int32)) (u : Int32 × Int32 × Int32 × (Nat → Int32) × (Nat → Int32)) (h : f_X11_read pasts length v past text = some u) : b_Ct l yX11_read cX11_read 6 (some .int) 2 48 D g [.ref (a o)] [k_Model g a o pasts length printed told state backX backY boxes frees bestFree bestTurned bestFirst bestSecond v spare past kept isKept text paper left top wide high original turn boxX boxY boxW boxH freeAtX freeAtY freeW freeH begins ends tried aside] [k_Model g a o u.2.1 length printed u.2.2.1 state backX backY boxes frees bestFree bestTurned bestFirst bestSecond u.2.2.2.1 spare u.2.2.2.2 kept isKept text paper left top wide high original turn boxX boxY boxW boxH freeAtX freeAtY freeW freeH begins ends tried aside] (some (.int u.1)) := by
  refine b_start RX11 (by decide) rfl (Nat.le_of_ble_eq_true rfl) rfl ?_
  intro p e s m args below meth c A ls Q hQ hx hb hr hlk hml hown hT hK hA hw hl
  have hl : lv_has ls 6 [(0, .ref (a o))] := hl
  unfold f_X11_read at h
  refine lv_aload_n hx hb dX11_read_0 rfl (lv_at hl 0 rfl) ?_
  obtain ⟨r1, er1, h⟩ := g_cl_some h
  refine b_callV hx hb hml hown hT hK hA hw mk_X11_110 (c_X11_faultOf l D g a o pasts length printed told state backX backY boxes frees bestFree bestTurned bestFirst bestSecond v spare past kept isKept text paper left top wide high original turn boxX boxY boxW boxH freeAtX freeAtY freeW freeH begins ends tried aside r1 er1) [0] [] rfl (by decide) 0 0 rfl rfl rfl rfl hl.1 [] rfl (Nat.le_of_ble_eq_true rfl) ⟨Nat.le_of_ble_eq_true rfl, Nat.le_of_ble_eq_true rfl⟩ ⟨Nat.zero_le _, Nat.zero_le _⟩ dX11_read_1 (wb' := [k_Model g a o pasts length printed r1.2 state backX backY boxes frees bestFree bestTurned bestFirst bestSecond v spare past kept isKept text paper left top wide high original turn boxX boxY boxW boxH freeAtX freeAtY freeW freeH begins ends tried aside]) rfl b_e0 1 rfl (by decide) (st2 := [.int r1.1]) rfl (fun H locs hw => ?_)
  refine lv_if_lt (tgt := 10) hx hb dX11_read_4 (by decide) (fun hc4 => ?_) (fun hc4 => ?_)
  · rw [if_pos hc4] at h
    refine lv_aload_n hx hb dX11_read_10 rfl (lv_at hl 0 rfl) ?_
    refine b_get hx hb hT hK hown fl_X11_7 hw 0 0 rfl rfl (v := .ref (a (o+1))) rfl dX11_read_11 ?_
    refine lv_iconst (v := 0) hx hb dX11_read_14 (by decide) ?_
    obtain ⟨x2, ex2, hix2, h⟩ := g_rd_some h
    refine b_iald hx hb hK hw 0 1 rfl (f := v) rfl hix2 ex2 dX11_read_15 ?_
    refine lv_aload_n hx hb dX11_read_16 rfl (lv_at hl 0 rfl) ?_
    refine b_get hx hb hT hK hown fl_X11_107 hw 0 0 rfl rfl (v := .int r1.2) rfl dX11_read_17 ?_
    refine lv_iadd hx hb dX11_read_20 ?_
    refine lv_bipush (v := 24) hx hb dX11_read_21 (by decide) ?_
    refine lv_icmp_le (tgt := 29) hx hb dX11_read_23 (by decide) (fun hc23 => ?_) (fun hc23 => ?_)
    · rw [if_pos hc23] at h
      refine lv_aload_n hx hb dX11_read_29 rfl (lv_at hl 0 rfl) ?_
      obtain ⟨r3, er3, h⟩ := g_cl_some h
      refine b_callV hx hb hml hown hT hK hA hw mk_X11_98 (c_X11_notes l D g a o pasts length printed r1.2 state backX backY boxes frees bestFree bestTurned bestFirst bestSecond v spare past kept isKept text paper left top wide high original turn boxX boxY boxW boxH freeAtX freeAtY freeW freeH begins ends tried aside r3 er3) [0] [] rfl (by decide) 0 0 rfl rfl rfl rfl hl.1 [] rfl (Nat.le_of_ble_eq_true rfl) ⟨Nat.le_of_ble_eq_true rfl, Nat.le_of_ble_eq_true rfl⟩ ⟨Nat.zero_le _, Nat.zero_le _⟩ dX11_read_30 (wb' := [k_Model g a o r3.1 length printed r1.2 state backX backY boxes frees bestFree bestTurned bestFirst bestSecond v spare r3.2 kept isKept text paper left top wide high original turn boxX boxY boxW boxH freeAtX freeAtY freeW freeH begins ends tried aside]) rfl b_e0 1 rfl (by decide) (st2 := []) rfl (fun H locs hw => ?_)
      refine lv_iconst (v := 0) hx hb dX11_read_33 (by decide) ?_
      refine lv_istore_n (lv' := [(1, .int (0 : Int32)), (0, .ref (a o))]) hx hb dX11_read_34 rfl hl (by decide) rfl (fun ls hl => ?_)
      refine lv_iconst (v := 0) hx hb dX11_read_35 (by decide) ?_
      refine lv_istore_n (lv' := [(2, .int (0 : Int32)), (1, .int (0 : Int32)), (0, .ref (a o))]) hx hb dX11_read_36 rfl hl (by decide) rfl (fun ls hl => ?_)
      refine lv_iconst (v := 0) hx hb dX11_read_37 (by decide) ?_
      refine lv_istore_n (lv' := [(3, .int (0 : Int32)), (2, .int (0 : Int32)), (1, .int (0 : Int32)), (0, .ref (a o))]) hx hb dX11_read_38 rfl hl (by decide) rfl (fun ls hl => ?_)
      obtain ⟨k160_4, ek160_4, h⟩ := g_jn_nm h
      have hk160_4 : ∀ (f4 : Nat → Int32) (H : Heap) (locs : List Loc) (ls : Array Slot), b_Wd D A s.heap H locs [k_Model g a o r3.1 length printed r1.2 state backX backY boxes frees bestFree bestTurned bestFirst bestSecond f4 spare r3.2 kept isKept text paper left top wide high original turn boxX boxY boxW boxH freeAtX freeAtY freeW freeH begins ends tried aside] → lv_has ls 6 [(0, .ref (a o))] → k160_4 f4 = some u → W p l e (g_rm 2 48) s m args below meth c H locs 0 0 Q (F0 m 160 ls []) := by
        intro f4 H locs ls hw hl h
        subst ek160_4
        dsimp only at h
        refine lv_aload_n hx hb dX11_read_160 rfl (lv_at hl 0 rfl) ?_
        refine b_get hx hb hT hK hown fl_X11_7 hw 0 0 rfl rfl (v := .ref (a (o+1))) rfl dX11_read_161 ?_
        refine lv_iconst (v := 0) hx hb dX11_read_164 (by decide) ?_
        obtain ⟨x6, ex6, hix6, h⟩ := g_rd_some h
        refine b_iald hx hb hK hw 0 1 rfl (f := f4) rfl hix6 ex6 dX11_read_165 ?_
        obtain rfl := Option.some.inj h
        exact b_iret hQ hx hb hr hlk hw rfl dX11_read_166
      have hL39 : ∀ (n : Nat) (x7 : Int32) (x8 : Int32) (x9 : Int32) (f10 : Nat → Int32) (H : Heap) (locs : List Loc) (ls : Array Slot), b_Wd D A s.heap H locs [k_Model g a o r3.1 length printed r1.2 state backX backY boxes frees bestFree bestTurned bestFirst bestSecond f10 spare r3.2 kept isKept text paper left top wide high original turn boxX boxY boxW boxH freeAtX freeAtY freeW freeH begins ends tried aside] → lv_has ls 6 [(0, .ref (a o)), (1, .int x7), (2, .int x8), (3, .int x9)] → f_X11_read_L39 length text k160_4 n x7 x8 x9 f10 = some u → W p l e (g_rm 2 48) s m args below meth c H locs 0 0 Q (F0 m 39 ls []) := by
        intro n
        induction n with
        | zero =>
          intro x7 x8 x9 f10 H locs ls hw hl h
          cases (show none = some u from h)
        | succ n ih39 =>
          intro x7 x8 x9 f10 H locs ls hw hl h
          rw [f_X11_read_L39] at h
          refine lv_iload_n hx hb dX11_read_39 rfl (lv_at hl 3 rfl) ?_
          refine lv_aload_n hx hb dX11_read_40 rfl (lv_at hl 0 rfl) ?_
          refine b_get hx hb hT hK hown fl_X11_104 hw 0 0 rfl rfl (v := .int length) rfl dX11_read_41 ?_
          refine lv_icmp_ge (tgt := 160) hx hb dX11_read_44 (by decide) (fun hc44 => ?_) (fun hc44 => ?_)
          · rw [if_pos hc44] at h
            exact hk160_4 f10 _ _ _ hw (lv_sub hl [0] rfl) h
          · rw [if_neg hc44] at h
            refine lv_aload_n hx hb dX11_read_47 rfl (lv_at hl 0 rfl) ?_
            refine b_get hx hb hT hK hown fl_X11_26 hw 0 0 rfl rfl (v := .ref (a (o+6))) rfl dX11_read_48 ?_
            refine lv_iload_n hx hb dX11_read_51 rfl (lv_at hl 3 rfl) ?_
            obtain ⟨x11, ex11, hix11, h⟩ := g_rd_some h
            refine b_iald hx hb hK hw 0 6 rfl (f := text) rfl hix11 ex11 dX11_read_52 ?_
            refine lv_istore (lv' := [(4, .int x11), (0, .ref (a o)), (1, .int x7), (2, .int x8), (3, .int x9)]) hx hb dX11_read_53 hl (by decide) rfl (fun ls hl => ?_)
            refine lv_iload_n hx hb dX11_read_55 rfl (lv_at hl 2 rfl) ?_
            obtain ⟨j69_12, ej69_12, h⟩ := g_jn_nm h
            have hj69_12 : ∀ (f12 : Nat → Int32) (H : Heap) (locs : List Loc) (ls : Array Slot), b_Wd D A s.heap H locs [k_Model g a o r3.1 length printed r1.2 state backX backY boxes frees bestFree bestTurned bestFirst bestSecond f12 spare r3.2 kept isKept text paper left top wide high original turn boxX boxY boxW boxH freeAtX freeAtY freeW freeH begins ends tried aside] → lv_has ls 6 [(0, .ref (a o)), (1, .int x7), (2, .int x8), (3, .int x9), (4, .int x11)] → j69_12 f12 = some u → W p l e (g_rm 2 48) s m args below meth c H locs 0 0 Q (F0 m 69 ls []) := by
              intro f12 H locs ls hw hl h
              subst ej69_12
              dsimp only at h
              refine lv_aload_n hx hb dX11_read_69 rfl (lv_at hl 0 rfl) ?_
              refine b_get hx hb hT hK hown fl_X11_7 hw 0 0 rfl rfl (v := .ref (a (o+1))) rfl dX11_read_70 ?_
              refine lv_iconst (v := 0) hx hb dX11_read_73 (by decide) ?_
              obtain ⟨x14, ex14, hix14, h⟩ := g_rd_some h
              refine b_iald hx hb hK hw 0 1 rfl (f := f12) rfl hix14 ex14 dX11_read_74 ?_
              refine lv_iconst (v := 1) hx hb dX11_read_75 (by decide) ?_
              refine lv_isub hx hb dX11_read_76 ?_
              obtain ⟨x15, ex15, h⟩ := g_bd_nm h
              refine g_topi ex15 ?_
              refine lv_istore (lv' := [(5, .int x15), (0, .ref (a o)), (1, .int x7), (2, .int x8), (3, .int x9), (4, .int x11)]) hx hb dX11_read_77 hl (by decide) rfl (fun ls hl => ?_)
              refine lv_iload hx hb dX11_read_79 (lv_at hl 5 rfl) ?_
              refine lv_bipush (v := 59) hx hb dX11_read_81 (by decide) ?_
              obtain ⟨j154_18, ej154_18, h⟩ := g_jn_nm h
              have hj154_18 : ∀ (x16 : Int32) (x17 : Int32) (f18 : Nat → Int32) (H : Heap) (locs : List Loc) (ls : Array Slot), b_Wd D A s.heap H locs [k_Model g a o r3.1 length printed r1.2 state backX backY boxes frees bestFree bestTurned bestFirst bestSecond f18 spare r3.2 kept isKept text paper left top wide high original turn boxX boxY boxW boxH freeAtX freeAtY freeW freeH begins ends tried aside] → lv_has ls 6 [(0, .ref (a o)), (1, .int x16), (2, .int x17), (3, .int x9)] → j154_18 x16 x17 f18 = some u → W p l e (g_rm 2 48) s m args below meth c H locs 0 0 Q (F0 m 154 ls []) := by
                intro x16 x17 f18 H locs ls hw hl h
                subst ej154_18
                dsimp only at h
                obtain ⟨x20, ex20, h⟩ := g_bd_nm h
                refine lv_iinc (v := x20) (lv' := [(3, .int x20), (0, .ref (a o)), (1, .int x16), (2, .int x17)]) hx hb dX11_read_154 hl (k := 3) rfl (by rw [ex20]; rfl) (by decide) rfl (fun ls hl => ?_)
                refine lv_goto (tgt := 39) hx hb dX11_read_157 (by decide) ?_
                exact ih39 x16 x17 x20 f18 _ _ _ hw (lv_sub hl [1, 2, 3, 0] rfl) h
              refine lv_icmp_ne (tgt := 107) hx hb dX11_read_83 (by decide) (fun hc83 => ?_) (fun hc83 => ?_)
              · rw [if_neg hc83] at h
                refine lv_iload hx hb dX11_read_107 (lv_at hl 5 rfl) ?_
                refine lv_bipush (v := 47) hx hb dX11_read_109 (by decide) ?_
                refine lv_icmp_ne (tgt := 122) hx hb dX11_read_111 (by decide) (fun hc111 => ?_) (fun hc111 => ?_)
                · rw [if_neg hc111] at h
                  refine lv_aload_n hx hb dX11_read_122 rfl (lv_at hl 1 rfl) ?_
                  refine b_get hx hb hT hK hown fl_X11_7 hw 0 0 rfl rfl (v := .ref (a (o+1))) rfl dX11_read_123 ?_
                  refine lv_iload hx hb dX11_read_126 (lv_at hl 0 rfl) ?_
                  refine lv_iload_n hx hb dX11_read_128 rfl (lv_at hl 2 rfl) ?_
                  refine lv_iload_n hx hb dX11_read_129 rfl (lv_at hl 3 rfl) ?_
                  refine b_callS hx hb hml hown hT hK hA hw mk_X11_118 (c_X11_pixelAt l D g x15 x7 x8) [] [0] rfl (by decide) rfl hl.1 [.ref (a (o+1))] rfl (Nat.le_of_ble_eq_true rfl) ⟨Nat.le_of_ble_eq_true rfl, Nat.le_of_ble_eq_true rfl⟩ ⟨Nat.zero_le _, Nat.zero_le _⟩ dX11_read_130 (wb' := [k_Model g a o r3.1 length printed r1.2 state backX backY boxes frees bestFree bestTurned bestFirst bestSecond f12 spare r3.2 kept isKept text paper left top wide high original turn boxX boxY boxW boxH freeAtX freeAtY freeW freeH begins ends tried aside]) rfl (b_e1 rfl b_e0) 1 rfl (by decide) (st2 := [.int (f_X11_pixelAt x15 x7 x8), .ref (a (o+1))]) rfl (fun H locs hw => ?_)
                  refine lv_iload hx hb dX11_read_133 (lv_at hl 5 rfl) ?_
                  refine lv_bipush (v := 48) hx hb dX11_read_135 (by decide) ?_
                  refine lv_isub hx hb dX11_read_137 ?_
                  obtain ⟨x24, ex24, h⟩ := g_bd_nm h
                  refine g_topi ex24 ?_
                  obtain ⟨f25, ef25, hif25, h⟩ := g_wr_some h
                  refine b_iast hx hb hK hw 0 1 rfl (f := f12) rfl hif25 ef25 rfl (wb' := [k_Model g a o r3.1 length printed r1.2 state backX backY boxes frees bestFree bestTurned bestFirst bestSecond f25 spare r3.2 kept isKept text paper left top wide high original turn boxX boxY boxW boxH freeAtX freeAtY freeW freeH begins ends tried aside]) rfl dX11_read_138 (fun H locs hw => ?_)
                  obtain ⟨x26, ex26, h⟩ := g_bd_nm h
                  refine lv_iinc (v := x26) (lv' := [(1, .int x26), (5, .int x15), (0, .ref (a o)), (2, .int x8), (3, .int x9), (4, .int x11)]) hx hb dX11_read_139 hl (k := 2) rfl (by rw [ex26]; rfl) (by decide) rfl (fun ls hl => ?_)
                  refine lv_aload_n hx hb dX11_read_142 rfl (lv_at hl 2 rfl) ?_
                  refine b_get hx hb hT hK hown fl_X11_7 hw 0 0 rfl rfl (v := .ref (a (o+1))) rfl dX11_read_143 ?_
                  refine lv_iload hx hb dX11_read_146 (lv_at hl 1 rfl) ?_
                  refine lv_iconst (v := 0) hx hb dX11_read_148 (by decide) ?_
                  refine b_callS hx hb hml hown hT hK hA hw mk_X11_94 (c_X11_at l D g x15 (0 : Int32)) [] [0] rfl (by decide) rfl hl.1 [.ref (a (o+1))] rfl (Nat.le_of_ble_eq_true rfl) ⟨Nat.le_of_ble_eq_true rfl, Nat.le_of_ble_eq_true rfl⟩ ⟨Nat.zero_le _, Nat.zero_le _⟩ dX11_read_149 (wb' := [k_Model g a o r3.1 length printed r1.2 state backX backY boxes frees bestFree bestTurned bestFirst bestSecond f25 spare r3.2 kept isKept text paper left top wide high original turn boxX boxY boxW boxH freeAtX freeAtY freeW freeH begins ends tried aside]) rfl (b_e1 rfl b_e0) 1 rfl (by decide) (st2 := [.int (f_X11_at x15 (0 : Int32)), .ref (a (o+1))]) rfl (fun H locs hw => ?_)
                  refine lv_iload_n hx hb dX11_read_152 rfl (lv_at hl 0 rfl) ?_
                  obtain ⟨f27, ef27, hif27, h⟩ := g_wr_some h
                  refine b_iast hx hb hK hw 0 1 rfl (f := f25) rfl hif27 ef27 rfl (wb' := [k_Model g a o r3.1 length printed r1.2 state backX backY boxes frees bestFree bestTurned bestFirst bestSecond f27 spare r3.2 kept isKept text paper left top wide high original turn boxX boxY boxW boxH freeAtX freeAtY freeW freeH begins ends tried aside]) rfl dX11_read_153 (fun H locs hw => ?_)
                  exact hj154_18 x26 x8 f27 _ _ _ hw (lv_sub hl [2, 0, 3, 4] rfl) h
                · rw [if_pos hc111] at h
                  refine lv_iconst (v := 0) hx hb dX11_read_114 (by decide) ?_
                  refine lv_istore_n (lv' := [(1, .int (0 : Int32)), (5, .int x15), (0, .ref (a o)), (2, .int x8), (3, .int x9), (4, .int x11)]) hx hb dX11_read_115 rfl hl (by decide) rfl (fun ls hl => ?_)
                  obtain ⟨x23, ex23, h⟩ := g_bd_nm h
                  refine lv_iinc (v := x23) (lv' := [(2, .int x23), (1, .int (0 : Int32)), (5, .int x15), (0, .ref (a o)), (3, .int x9), (4, .int x11)]) hx hb dX11_read_116 hl (k := 3) rfl (by rw [ex23]; rfl) (by decide) rfl (fun ls hl => ?_)
                  refine lv_goto (tgt := 154) hx hb dX11_read_119 (by decide) ?_
                  exact hj154_18 (0 : Int32) x23 f12 _ _ _ hw (lv_sub hl [3, 1, 0, 4] rfl) h
              · rw [if_pos hc83] at h
                refine lv_aload_n hx hb dX11_read_86 rfl (lv_at hl 1 rfl) ?_
                refine b_get hx hb hT hK hown fl_X11_7 hw 0 0 rfl rfl (v := .ref (a (o+1))) rfl dX11_read_87 ?_
                refine lv_iload hx hb dX11_read_90 (lv_at hl 0 rfl) ?_
                refine lv_iconst (v := 1) hx hb dX11_read_92 (by decide) ?_
                refine b_callS hx hb hml hown hT hK hA hw mk_X11_94 (c_X11_at l D g x15 (1 : Int32)) [] [0] rfl (by decide) rfl hl.1 [.ref (a (o+1))] rfl (Nat.le_of_ble_eq_true rfl) ⟨Nat.le_of_ble_eq_true rfl, Nat.le_of_ble_eq_true rfl⟩ ⟨Nat.zero_le _, Nat.zero_le _⟩ dX11_read_93 (wb' := [k_Model g a o r3.1 length printed r1.2 state backX backY boxes frees bestFree bestTurned bestFirst bestSecond f12 spare r3.2 kept isKept text paper left top wide high original turn boxX boxY boxW boxH freeAtX freeAtY freeW freeH begins ends tried aside]) rfl (b_e1 rfl b_e0) 1 rfl (by decide) (st2 := [.int (f_X11_at x15 (1 : Int32)), .ref (a (o+1))]) rfl (fun H locs hw => ?_)
                refine lv_iload_n hx hb dX11_read_96 rfl (lv_at hl 3 rfl) ?_
                refine lv_iconst (v := 1) hx hb dX11_read_97 (by decide) ?_
                refine lv_iadd hx hb dX11_read_98 ?_
                obtain ⟨x21, ex21, h⟩ := g_bd_nm h
                refine g_topi ex21 ?_
                obtain ⟨f22, ef22, hif22, h⟩ := g_wr_some h
                refine b_iast hx hb hK hw 0 1 rfl (f := f12) rfl hif22 ef22 rfl (wb' := [k_Model g a o r3.1 length printed r1.2 state backX backY boxes frees bestFree bestTurned bestFirst bestSecond f22 spare r3.2 kept isKept text paper left top wide high original turn boxX boxY boxW boxH freeAtX freeAtY freeW freeH begins ends tried aside]) rfl dX11_read_99 (fun H locs hw => ?_)
                refine lv_iconst (v := 0) hx hb dX11_read_100 (by decide) ?_
                refine lv_istore_n (lv' := [(1, .int (0 : Int32)), (5, .int x15), (0, .ref (a o)), (2, .int x8), (3, .int x9), (4, .int x11)]) hx hb dX11_read_101 rfl hl (by decide) rfl (fun ls hl => ?_)
                refine lv_iconst (v := 0) hx hb dX11_read_102 (by decide) ?_
                refine lv_istore_n (lv' := [(2, .int (0 : Int32)), (1, .int (0 : Int32)), (5, .int x15), (0, .ref (a o)), (3, .int x9), (4, .int x11)]) hx hb dX11_read_103 rfl hl (by decide) rfl (fun ls hl => ?_)
                refine lv_goto (tgt := 154) hx hb dX11_read_104 (by decide) ?_
                exact hj154_18 (0 : Int32) (0 : Int32) f22 _ _ _ hw (lv_sub hl [3, 1, 0, 4] rfl) h
            refine lv_if_ne (tgt := 69) hx hb dX11_read_56 (by decide) (fun hc56 => ?_) (fun hc56 => ?_)
            · rw [if_neg hc56] at h
              exact hj69_12 f10 _ _ _ hw (lv_sub hl [1, 2, 3, 4, 0] rfl) h
            · rw [if_pos hc56] at h
              refine lv_iload_n hx hb dX11_read_59 rfl (lv_at hl 3 rfl) ?_
              refine lv_if_ne (tgt := 69) hx hb dX11_read_60 (by decide) (fun hc60 => ?_) (fun hc60 => ?_)
              · rw [if_neg hc60] at h
                exact hj69_12 f10 _ _ _ hw (lv_sub hl [1, 2, 3, 4, 0] rfl) h
              · rw [if_pos hc60] at h
                refine lv_aload_n hx hb dX11_read_63 rfl (lv_at hl 1 rfl) ?_
                refine lv_iconst (v := 0) hx hb dX11_read_64 (by decide) ?_
                refine lv_iconst (v := 0) hx hb dX11_read_65 (by decide) ?_
                obtain ⟨r28, er28, h⟩ := g_cl_some h
                refine b_callV hx hb hml hown hT hK hA hw mk_X11_114 (c_X11_adds l D g a o r3.1 length printed r1.2 state backX backY boxes frees bestFree bestTurned bestFirst bestSecond f10 spare r3.2 kept isKept text paper left top wide high original turn boxX boxY boxW boxH freeAtX freeAtY freeW freeH begins ends tried aside (0 : Int32) (0 : Int32) r28 er28) [0] [] rfl (by decide) 0 0 rfl rfl rfl rfl hl.1 [] rfl (Nat.le_of_ble_eq_true rfl) ⟨Nat.le_of_ble_eq_true rfl, Nat.le_of_ble_eq_true rfl⟩ ⟨Nat.zero_le _, Nat.zero_le _⟩ dX11_read_66 (wb' := [k_Model g a o r3.1 length printed r1.2 state backX backY boxes frees bestFree bestTurned bestFirst bestSecond r28 spare r3.2 kept isKept text paper left top wide high original turn boxX boxY boxW boxH freeAtX freeAtY freeW freeH begins ends tried aside]) rfl b_e0 1 rfl (by decide) (st2 := []) rfl (fun H locs hw => ?_)
                exact hj69_12 r28 _ _ _ hw (lv_sub hl [1, 2, 3, 4, 0] rfl) h
      exact hL39 g_fuel (0 : Int32) (0 : Int32) (0 : Int32) v _ _ _ hw (lv_sub hl [3, 2, 1, 0] rfl) h
    · rw [if_neg hc23] at h
      refine lv_bipush (v := -2) hx hb dX11_read_26 (by decide) ?_
      obtain rfl := Option.some.inj h
      exact b_iret hQ hx hb hr hlk hw rfl dX11_read_28
  · rw [if_neg hc4] at h
    refine lv_bipush (v := -3) hx hb dX11_read_7 (by decide) ?_
    obtain rfl := Option.some.inj h
    exact b_iret hQ hx hb hr hlk hw rfl dX11_read_9
set_option maxRecDepth 100000 in
set_option maxHeartbeats 4000000 in
theorem c_X11_random (l : Launch) (D : va_G) (g : Nat → ClassId) (a : Nat → Nat) (o : Nat) (pasts : Int32) (length : Int32) (printed : Int32) (told : Int32) (state : Int64) (backX : Int32) (backY : Int32) (boxes : Int32) (frees : Int32) (bestFree : Int32) (bestTurned : Int32) (bestFirst : Int32) (bestSecond : Int32) (v : (Nat → Int32)) (spare : (Nat → Int32)) (past : (Nat → Int32)) (kept : (Nat → Int32)) (isKept : (Nat → Int32)) (text : (Nat → Int32)) (paper : (Nat → Int32)) (left : (Nat → Int32)) (top : (Nat → Int32)) (wide : (Nat → Int32)) (high : (Nat → Int32)) (original : (Nat → Int32)) (turn : (Nat → Int32)) (boxX : (Nat → Int32)) (boxY : (Nat → Int32)) (boxW : (Nat → Int32)) (boxH : (Nat → Int32)) (freeAtX : (Nat → Int32)) (freeAtY : (Nat → Int32)) (freeW : (Nat → Int32)) (freeH : (Nat → Int32)) (begins : (Nat → Int32)) (ends : (Nat → Int32)) (tried : (Nat → Int32)) (aside : (Nat → Int32)) (i1 : Int32) (u : Int32 × Int64) (h : f_X11_random state i1 = some u) : b_Ct l yX11_random cX11_random 2 (some .int) 0 0 D g [.ref (a o), .int i1] [k_Model g a o pasts length printed told state backX backY boxes frees bestFree bestTurned bestFirst bestSecond v spare past kept isKept text paper left top wide high original turn boxX boxY boxW boxH freeAtX freeAtY freeW freeH begins ends tried aside] [k_Model g a o pasts length printed told u.2 backX backY boxes frees bestFree bestTurned bestFirst bestSecond v spare past kept isKept text paper left top wide high original turn boxX boxY boxW boxH freeAtX freeAtY freeW freeH begins ends tried aside] (some (.int u.1)) := by
  refine b_start RX11 (by decide) rfl (Nat.le_of_ble_eq_true rfl) rfl ?_
  intro p e s m args below meth c A ls Q hQ hx hb hr hlk hml hown hT hK hA hw hl
  have hl : lv_has ls 2 [(0, .ref (a o)), (1, .int i1)] := hl
  unfold f_X11_random at h
  refine lv_aload_n hx hb dX11_random_0 rfl (lv_at hl 0 rfl) ?_
  refine lv_aload_n hx hb dX11_random_1 rfl (lv_at hl 0 rfl) ?_
  refine b_get hx hb hT hK hown fl_X11_122 hw 0 0 rfl rfl (v := .long state) rfl dX11_random_2 ?_
  refine lv_ldc2 hx hb hown (hT _ kc_X11_126) dX11_random_5 ?_
  refine lv_lmul hx hb dX11_random_8 ?_
  refine lv_ldc2 hx hb hown (hT _ kc_X11_128) dX11_random_9 ?_
  refine lv_ladd hx hb dX11_random_12 ?_
  refine lv_ldc2 hx hb hown (hT _ kc_X11_130) dX11_random_13 ?_
  refine g_lrem hx hb dX11_random_16 (by decide) ?_
  obtain ⟨y1, ey1, h⟩ := g_bd_nm h
  refine g_topl ey1 ?_
  refine b_putf hx hb hT hK hown fl_X11_122 ft_X11 hw 0 0 rfl rfl rfl rfl rfl (Nat.le_of_ble_eq_true rfl) rfl (wb' := [k_Model g a o pasts length printed told y1 backX backY boxes frees bestFree bestTurned bestFirst bestSecond v spare past kept isKept text paper left top wide high original turn boxX boxY boxW boxH freeAtX freeAtY freeW freeH begins ends tried aside]) rfl dX11_random_17 (fun H locs hw => ?_)
  refine lv_aload_n hx hb dX11_random_20 rfl (lv_at hl 0 rfl) ?_
  refine b_get hx hb hT hK hown fl_X11_122 hw 0 0 rfl rfl (v := .long y1) rfl dX11_random_21 ?_
  refine lv_ldc2 hx hb hown (hT _ kc_X11_132) dX11_random_24 ?_
  refine lv_ldiv hx hb dX11_random_27 (by decide) ?_
  refine lv_l2i hx hb dX11_random_28 rfl ?_
  refine lv_iload_n hx hb dX11_random_29 rfl (lv_at hl 1 rfl) ?_
  obtain ⟨z2, h⟩ := g_nz_some h
  refine g_irem hx hb dX11_random_30 z2 ?_
  obtain rfl := Option.some.inj h
  exact b_iret hQ hx hb hr hlk hw rfl dX11_random_31
set_option maxRecDepth 100000 in
set_option maxHeartbeats 4000000 in
theorem c_X11_draw (l : Launch) (D : va_G) (g : Nat → ClassId) (a : Nat → Nat) (o : Nat) (pasts : Int32) (length : Int32) (printed : Int32) (told : Int32) (state : Int64) (backX : Int32) (backY : Int32) (boxes : Int32) (frees : Int32) (bestFree : Int32) (bestTurned : Int32) (bestFirst : Int32) (bestSecond : Int32) (v : (Nat → Int32)) (spare : (Nat → Int32)) (past : (Nat → Int32)) (kept : (Nat → Int32)) (isKept : (Nat → Int32)) (text : (Nat → Int32)) (paper : (Nat → Int32)) (left : (Nat → Int32)) (top : (Nat → Int32)) (wide : (Nat → Int32)) (high : (Nat → Int32)) (original : (Nat → Int32)) (turn : (Nat → Int32)) (boxX : (Nat → Int32)) (boxY : (Nat → Int32)) (boxW : (Nat → Int32)) (boxH : (Nat → Int32)) (freeAtX : (Nat → Int32)) (freeAtY : (Nat → Int32)) (freeW : (Nat → Int32)) (freeH : (Nat → Int32)) (begins : (Nat → Int32)) (ends : (Nat → Int32)) (tried : (Nat → Int32)) (aside : (Nat → Int32)) (i1 : Int32) (i2 : Int32) (u : Int32 × Int32 × Int64 × (Nat → Int32) × (Nat → Int32)) (h : f_X11_draw pasts state v past i1 i2 = some u) : b_Ct l yX11_draw cX11_draw 10 (some .int) 2 45 D g [.ref (a o), .int i1, .int i2] [k_Model g a o pasts length printed told state backX backY boxes frees bestFree bestTurned bestFirst bestSecond v spare past kept isKept text paper left top wide high original turn boxX boxY boxW boxH freeAtX freeAtY freeW freeH begins ends tried aside] [k_Model g a o u.2.1 length printed told u.2.2.1 backX backY boxes frees bestFree bestTurned bestFirst bestSecond u.2.2.2.1 spare u.2.2.2.2 kept isKept text paper left top wide high original turn boxX boxY boxW boxH freeAtX freeAtY freeW freeH begins ends tried aside] (some (.int u.1)) := by
  refine b_start RX11 (by decide) rfl (Nat.le_of_ble_eq_true rfl) rfl ?_
  intro p e s m args below meth c A ls Q hQ hx hb hr hlk hml hown hT hK hA hw hl
  have hl : lv_has ls 10 [(0, .ref (a o)), (1, .int i1), (2, .int i2)] := hl
  unfold f_X11_draw at h
  refine lv_iload_n hx hb dX11_draw_0 rfl (lv_at hl 1 rfl) ?_
  refine lv_if_lt (tgt := 14) hx hb dX11_draw_1 (by decide) (fun hc1 => ?_) (fun hc1 => ?_)
  · rw [if_pos hc1] at h
    refine lv_iconst (v := -1) hx hb dX11_draw_14 (by decide) ?_
    obtain rfl := Option.some.inj h
    exact b_iret hQ hx hb hr hlk hw rfl dX11_draw_15
  · rw [if_neg hc1] at h
    refine lv_iload_n hx hb dX11_draw_4 rfl (lv_at hl 2 rfl) ?_
    refine lv_iconst (v := 1) hx hb dX11_draw_5 (by decide) ?_
    refine lv_bipush (v := 8) hx hb dX11_draw_6 (by decide) ?_
    refine b_callS hx hb hml hown hT hK hA hw mk_X11_86 (c_X11_in l D g i2 (1 : Int32) (8 : Int32)) [] [0] rfl (by decide) rfl hl.1 [] rfl (Nat.le_of_ble_eq_true rfl) ⟨Nat.le_of_ble_eq_true rfl, Nat.le_of_ble_eq_true rfl⟩ ⟨Nat.zero_le _, Nat.zero_le _⟩ dX11_draw_8 (wb' := [k_Model g a o pasts length printed told state backX backY boxes frees bestFree bestTurned bestFirst bestSecond v spare past kept isKept text paper left top wide high original turn boxX boxY boxW boxH freeAtX freeAtY freeW freeH begins ends tried aside]) rfl (b_e1 rfl b_e0) 1 rfl (by decide) (st2 := [.int (f_X11_in i2 (1 : Int32) (8 : Int32))]) rfl (fun H locs hw => ?_)
    refine lv_if_ne (tgt := 16) hx hb dX11_draw_11 (by decide) (fun hc11 => ?_) (fun hc11 => ?_)
    · rw [if_neg hc11] at h
      refine lv_aload_n hx hb dX11_draw_16 rfl (lv_at hl 0 rfl) ?_
      refine b_get hx hb hT hK hown fl_X11_7 hw 0 0 rfl rfl (v := .ref (a (o+1))) rfl dX11_draw_17 ?_
      refine lv_iconst (v := 0) hx hb dX11_draw_20 (by decide) ?_
      obtain ⟨x1, ex1, hix1, h⟩ := g_rd_some h
      refine b_iald hx hb hK hw 0 1 rfl (f := v) rfl hix1 ex1 dX11_draw_21 ?_
      refine lv_iload_n hx hb dX11_draw_22 rfl (lv_at hl 2 rfl) ?_
      refine lv_iadd hx hb dX11_draw_23 ?_
      refine lv_bipush (v := 24) hx hb dX11_draw_24 (by decide) ?_
      refine lv_icmp_le (tgt := 32) hx hb dX11_draw_26 (by decide) (fun hc26 => ?_) (fun hc26 => ?_)
      · rw [if_pos hc26] at h
        refine lv_aload_n hx hb dX11_draw_32 rfl (lv_at hl 0 rfl) ?_
        obtain ⟨r2, er2, h⟩ := g_cl_some h
        refine b_callV hx hb hml hown hT hK hA hw mk_X11_98 (c_X11_notes l D g a o pasts length printed told state backX backY boxes frees bestFree bestTurned bestFirst bestSecond v spare past kept isKept text paper left top wide high original turn boxX boxY boxW boxH freeAtX freeAtY freeW freeH begins ends tried aside r2 er2) [0] [] rfl (by decide) 0 0 rfl rfl rfl rfl hl.1 [] rfl (Nat.le_of_ble_eq_true rfl) ⟨Nat.le_of_ble_eq_true rfl, Nat.le_of_ble_eq_true rfl⟩ ⟨Nat.zero_le _, Nat.zero_le _⟩ dX11_draw_33 (wb' := [k_Model g a o r2.1 length printed told state backX backY boxes frees bestFree bestTurned bestFirst bestSecond v spare r2.2 kept isKept text paper left top wide high original turn boxX boxY boxW boxH freeAtX freeAtY freeW freeH begins ends tried aside]) rfl b_e0 1 rfl (by decide) (st2 := []) rfl (fun H locs hw => ?_)
        refine lv_aload_n hx hb dX11_draw_36 rfl (lv_at hl 0 rfl) ?_
        refine lv_iload_n hx hb dX11_draw_37 rfl (lv_at hl 1 rfl) ?_
        refine lv_i2l hx hb dX11_draw_38 rfl ?_
        obtain ⟨y3, ey3, h⟩ := g_bd_nm h
        refine g_topl ey3 ?_
        refine b_putf hx hb hT hK hown fl_X11_122 ft_X11 hw 0 0 rfl rfl rfl rfl rfl (Nat.le_of_ble_eq_true rfl) rfl (wb' := [k_Model g a o r2.1 length printed told y3 backX backY boxes frees bestFree bestTurned bestFirst bestSecond v spare r2.2 kept isKept text paper left top wide high original turn boxX boxY boxW boxH freeAtX freeAtY freeW freeH begins ends tried aside]) rfl dX11_draw_39 (fun H locs hw => ?_)
        refine lv_iconst (v := 0) hx hb dX11_draw_42 (by decide) ?_
        refine lv_istore_n (lv' := [(3, .int (0 : Int32)), (0, .ref (a o)), (1, .int i1), (2, .int i2)]) hx hb dX11_draw_43 rfl hl (by decide) rfl (fun ls hl => ?_)
        obtain ⟨k156_5, ek156_5, h⟩ := g_jn_nm h
        have hk156_5 : ∀ (x4 : Int64) (f5 : Nat → Int32) (H : Heap) (locs : List Loc) (ls : Array Slot), b_Wd D A s.heap H locs [k_Model g a o r2.1 length printed told x4 backX backY boxes frees bestFree bestTurned bestFirst bestSecond f5 spare r2.2 kept isKept text paper left top wide high original turn boxX boxY boxW boxH freeAtX freeAtY freeW freeH begins ends tried aside] → lv_has ls 10 [(0, .ref (a o))] → k156_5 x4 f5 = some u → W p l e (g_rm 2 45) s m args below meth c H locs 0 0 Q (F0 m 156 ls []) := by
          intro x4 f5 H locs ls hw hl h
          subst ek156_5
          dsimp only at h
          refine lv_aload_n hx hb dX11_draw_156 rfl (lv_at hl 0 rfl) ?_
          refine b_get hx hb hT hK hown fl_X11_7 hw 0 0 rfl rfl (v := .ref (a (o+1))) rfl dX11_draw_157 ?_
          refine lv_iconst (v := 0) hx hb dX11_draw_160 (by decide) ?_
          obtain ⟨x7, ex7, hix7, h⟩ := g_rd_some h
          refine b_iald hx hb hK hw 0 1 rfl (f := f5) rfl hix7 ex7 dX11_draw_161 ?_
          obtain rfl := Option.some.inj h
          exact b_iret hQ hx hb hr hlk hw rfl dX11_draw_162
        have hL44 : ∀ (n : Nat) (x8 : Int32) (x9 : Int64) (f10 : Nat → Int32) (H : Heap) (locs : List Loc) (ls : Array Slot), b_Wd D A s.heap H locs [k_Model g a o r2.1 length printed told x9 backX backY boxes frees bestFree bestTurned bestFirst bestSecond f10 spare r2.2 kept isKept text paper left top wide high original turn boxX boxY boxW boxH freeAtX freeAtY freeW freeH begins ends tried aside] → lv_has ls 10 [(0, .ref (a o)), (2, .int i2), (3, .int x8)] → f_X11_draw_L44 i2 k156_5 n x8 x9 f10 = some u → W p l e (g_rm 2 45) s m args below meth c H locs 0 0 Q (F0 m 44 ls []) := by
          intro n
          induction n with
          | zero =>
            intro x8 x9 f10 H locs ls hw hl h
            cases (show none = some u from h)
          | succ n ih44 =>
            intro x8 x9 f10 H locs ls hw hl h
            rw [f_X11_draw_L44] at h
            refine lv_iload_n hx hb dX11_draw_44 rfl (lv_at hl 2 rfl) ?_
            refine lv_iload_n hx hb dX11_draw_45 rfl (lv_at hl 1 rfl) ?_
            refine lv_icmp_ge (tgt := 156) hx hb dX11_draw_46 (by decide) (fun hc46 => ?_) (fun hc46 => ?_)
            · rw [if_pos hc46] at h
              exact hk156_5 x9 f10 _ _ _ hw (lv_sub hl [0] rfl) h
            · rw [if_neg hc46] at h
              refine lv_aload_n hx hb dX11_draw_49 rfl (lv_at hl 0 rfl) ?_
              refine lv_iconst (v := 5) hx hb dX11_draw_50 (by decide) ?_
              obtain ⟨r11, er11, h⟩ := g_cl_some h
              refine b_callV hx hb hml hown hT hK hA hw mk_X11_134 (c_X11_random l D g a o r2.1 length printed told x9 backX backY boxes frees bestFree bestTurned bestFirst bestSecond f10 spare r2.2 kept isKept text paper left top wide high original turn boxX boxY boxW boxH freeAtX freeAtY freeW freeH begins ends tried aside (5 : Int32) r11 er11) [0] [] rfl (by decide) 0 0 rfl rfl rfl rfl hl.1 [] rfl (Nat.le_of_ble_eq_true rfl) ⟨Nat.le_of_ble_eq_true rfl, Nat.le_of_ble_eq_true rfl⟩ ⟨Nat.zero_le _, Nat.zero_le _⟩ dX11_draw_51 (wb' := [k_Model g a o r2.1 length printed told r11.2 backX backY boxes frees bestFree bestTurned bestFirst bestSecond f10 spare r2.2 kept isKept text paper left top wide high original turn boxX boxY boxW boxH freeAtX freeAtY freeW freeH begins ends tried aside]) rfl b_e0 1 rfl (by decide) (st2 := [.int r11.1]) rfl (fun H locs hw => ?_)
              refine lv_iconst (v := 1) hx hb dX11_draw_54 (by decide) ?_
              refine lv_iadd hx hb dX11_draw_55 ?_
              obtain ⟨x12, ex12, h⟩ := g_bd_nm h
              refine g_topi ex12 ?_
              refine lv_istore (lv' := [(4, .int x12), (0, .ref (a o)), (2, .int i2), (3, .int x8)]) hx hb dX11_draw_56 hl (by decide) rfl (fun ls hl => ?_)
              refine lv_aload_n hx hb dX11_draw_58 rfl (lv_at hl 1 rfl) ?_
              refine lv_iconst (v := 5) hx hb dX11_draw_59 (by decide) ?_
              obtain ⟨r13, er13, h⟩ := g_cl_some h
              refine b_callV hx hb hml hown hT hK hA hw mk_X11_134 (c_X11_random l D g a o r2.1 length printed told r11.2 backX backY boxes frees bestFree bestTurned bestFirst bestSecond f10 spare r2.2 kept isKept text paper left top wide high original turn boxX boxY boxW boxH freeAtX freeAtY freeW freeH begins ends tried aside (5 : Int32) r13 er13) [0] [] rfl (by decide) 0 0 rfl rfl rfl rfl hl.1 [] rfl (Nat.le_of_ble_eq_true rfl) ⟨Nat.le_of_ble_eq_true rfl, Nat.le_of_ble_eq_true rfl⟩ ⟨Nat.zero_le _, Nat.zero_le _⟩ dX11_draw_60 (wb' := [k_Model g a o r2.1 length printed told r13.2 backX backY boxes frees bestFree bestTurned bestFirst bestSecond f10 spare r2.2 kept isKept text paper left top wide high original turn boxX boxY boxW boxH freeAtX freeAtY freeW freeH begins ends tried aside]) rfl b_e0 1 rfl (by decide) (st2 := [.int r13.1]) rfl (fun H locs hw => ?_)
              refine lv_iconst (v := 1) hx hb dX11_draw_63 (by decide) ?_
              refine lv_iadd hx hb dX11_draw_64 ?_
              obtain ⟨x14, ex14, h⟩ := g_bd_nm h
              refine g_topi ex14 ?_
              refine lv_istore (lv' := [(5, .int x14), (4, .int x12), (0, .ref (a o)), (2, .int i2), (3, .int x8)]) hx hb dX11_draw_65 hl (by decide) rfl (fun ls hl => ?_)
              refine lv_aload_n hx hb dX11_draw_67 rfl (lv_at hl 2 rfl) ?_
              refine b_get hx hb hT hK hown fl_X11_7 hw 0 0 rfl rfl (v := .ref (a (o+1))) rfl dX11_draw_68 ?_
              refine lv_iconst (v := 0) hx hb dX11_draw_71 (by decide) ?_
              obtain ⟨x15, ex15, hix15, h⟩ := g_rd_some h
              refine b_iald hx hb hK hw 0 1 rfl (f := f10) rfl hix15 ex15 dX11_draw_72 ?_
              refine lv_istore (lv' := [(6, .int x15), (5, .int x14), (4, .int x12), (0, .ref (a o)), (2, .int i2), (3, .int x8)]) hx hb dX11_draw_73 hl (by decide) rfl (fun ls hl => ?_)
              refine lv_aload_n hx hb dX11_draw_75 rfl (lv_at hl 3 rfl) ?_
              refine lv_iload hx hb dX11_draw_76 (lv_at hl 2 rfl) ?_
              refine lv_iload hx hb dX11_draw_78 (lv_at hl 1 rfl) ?_
              obtain ⟨r16, er16, h⟩ := g_cl_some h
              refine b_callV hx hb hml hown hT hK hA hw mk_X11_114 (c_X11_adds l D g a o r2.1 length printed told r13.2 backX backY boxes frees bestFree bestTurned bestFirst bestSecond f10 spare r2.2 kept isKept text paper left top wide high original turn boxX boxY boxW boxH freeAtX freeAtY freeW freeH begins ends tried aside x12 x14 r16 er16) [0] [] rfl (by decide) 0 0 rfl rfl rfl rfl hl.1 [] rfl (Nat.le_of_ble_eq_true rfl) ⟨Nat.le_of_ble_eq_true rfl, Nat.le_of_ble_eq_true rfl⟩ ⟨Nat.zero_le _, Nat.zero_le _⟩ dX11_draw_80 (wb' := [k_Model g a o r2.1 length printed told r13.2 backX backY boxes frees bestFree bestTurned bestFirst bestSecond r16 spare r2.2 kept isKept text paper left top wide high original turn boxX boxY boxW boxH freeAtX freeAtY freeW freeH begins ends tried aside]) rfl b_e0 1 rfl (by decide) (st2 := []) rfl (fun H locs hw => ?_)
              refine lv_iconst (v := 0) hx hb dX11_draw_83 (by decide) ?_
              refine lv_istore (lv' := [(7, .int (0 : Int32)), (6, .int x15), (5, .int x14), (4, .int x12), (0, .ref (a o)), (2, .int i2), (3, .int x8)]) hx hb dX11_draw_84 hl (by decide) rfl (fun ls hl => ?_)
              obtain ⟨k150_18, ek150_18, h⟩ := g_jn_nm h
              have hk150_18 : ∀ (x17 : Int64) (f18 : Nat → Int32) (H : Heap) (locs : List Loc) (ls : Array Slot), b_Wd D A s.heap H locs [k_Model g a o r2.1 length printed told x17 backX backY boxes frees bestFree bestTurned bestFirst bestSecond f18 spare r2.2 kept isKept text paper left top wide high original turn boxX boxY boxW boxH freeAtX freeAtY freeW freeH begins ends tried aside] → lv_has ls 10 [(0, .ref (a o)), (2, .int i2), (3, .int x8)] → k150_18 x17 f18 = some u → W p l e (g_rm 2 45) s m args below meth c H locs 0 0 Q (F0 m 150 ls []) := by
                intro x17 f18 H locs ls hw hl h
                subst ek150_18
                dsimp only at h
                obtain ⟨x20, ex20, h⟩ := g_bd_nm h
                refine lv_iinc (v := x20) (lv' := [(3, .int x20), (0, .ref (a o)), (2, .int i2)]) hx hb dX11_draw_150 hl (k := 2) rfl (by rw [ex20]; rfl) (by decide) rfl (fun ls hl => ?_)
                refine lv_goto (tgt := 44) hx hb dX11_draw_153 (by decide) ?_
                exact ih44 x20 x17 f18 _ _ _ hw (lv_sub hl [1, 2, 0] rfl) h
              have hL86 : ∀ (n : Nat) (x21 : Int32) (x22 : Int64) (f23 : Nat → Int32) (H : Heap) (locs : List Loc) (ls : Array Slot), b_Wd D A s.heap H locs [k_Model g a o r2.1 length printed told x22 backX backY boxes frees bestFree bestTurned bestFirst bestSecond f23 spare r2.2 kept isKept text paper left top wide high original turn boxX boxY boxW boxH freeAtX freeAtY freeW freeH begins ends tried aside] → lv_has ls 10 [(0, .ref (a o)), (2, .int i2), (3, .int x8), (4, .int x12), (5, .int x14), (6, .int x15), (7, .int x21)] → f_X11_draw_L86 x12 x14 x15 k150_18 n x21 x22 f23 = some u → W p l e (g_rm 2 45) s m args below meth c H locs 0 0 Q (F0 m 86 ls []) := by
                intro n
                induction n with
                | zero =>
                  intro x21 x22 f23 H locs ls hw hl h
                  cases (show none = some u from h)
                | succ n ih86 =>
                  intro x21 x22 f23 H locs ls hw hl h
                  rw [f_X11_draw_L86] at h
                  refine lv_iload hx hb dX11_draw_86 (lv_at hl 6 rfl) ?_
                  refine lv_iload hx hb dX11_draw_88 (lv_at hl 4 rfl) ?_
                  refine lv_icmp_ge (tgt := 150) hx hb dX11_draw_90 (by decide) (fun hc90 => ?_) (fun hc90 => ?_)
                  · rw [if_pos hc90] at h
                    exact hk150_18 x22 f23 _ _ _ hw (lv_sub hl [0, 1, 2] rfl) h
                  · rw [if_neg hc90] at h
                    refine lv_iconst (v := 0) hx hb dX11_draw_93 (by decide) ?_
                    refine lv_istore (lv' := [(8, .int (0 : Int32)), (0, .ref (a o)), (2, .int i2), (3, .int x8), (4, .int x12), (5, .int x14), (6, .int x15), (7, .int x21)]) hx hb dX11_draw_94 hl (by decide) rfl (fun ls hl => ?_)
                    obtain ⟨k144_25, ek144_25, h⟩ := g_jn_nm h
                    have hk144_25 : ∀ (x24 : Int64) (f25 : Nat → Int32) (H : Heap) (locs : List Loc) (ls : Array Slot), b_Wd D A s.heap H locs [k_Model g a o r2.1 length printed told x24 backX backY boxes frees bestFree bestTurned bestFirst bestSecond f25 spare r2.2 kept isKept text paper left top wide high original turn boxX boxY boxW boxH freeAtX freeAtY freeW freeH begins ends tried aside] → lv_has ls 10 [(0, .ref (a o)), (2, .int i2), (3, .int x8), (4, .int x12), (5, .int x14), (6, .int x15), (7, .int x21)] → k144_25 x24 f25 = some u → W p l e (g_rm 2 45) s m args below meth c H locs 0 0 Q (F0 m 144 ls []) := by
                      intro x24 f25 H locs ls hw hl h
                      subst ek144_25
                      dsimp only at h
                      obtain ⟨x27, ex27, h⟩ := g_bd_nm h
                      refine lv_iinc (v := x27) (lv' := [(7, .int x27), (0, .ref (a o)), (2, .int i2), (3, .int x8), (4, .int x12), (5, .int x14), (6, .int x15)]) hx hb dX11_draw_144 hl (k := 6) rfl (by rw [ex27]; rfl) (by decide) rfl (fun ls hl => ?_)
                      refine lv_goto (tgt := 86) hx hb dX11_draw_147 (by decide) ?_
                      exact ih86 x27 x24 f25 _ _ _ hw (lv_sub hl [1, 2, 3, 4, 5, 6, 0] rfl) h
                    have hL96 : ∀ (n : Nat) (x28 : Int32) (x29 : Int64) (f30 : Nat → Int32) (H : Heap) (locs : List Loc) (ls : Array Slot), b_Wd D A s.heap H locs [k_Model g a o r2.1 length printed told x29 backX backY boxes frees bestFree bestTurned bestFirst bestSecond f30 spare r2.2 kept isKept text paper left top wide high original turn boxX boxY boxW boxH freeAtX freeAtY freeW freeH begins ends tried aside] → lv_has ls 10 [(0, .ref (a o)), (2, .int i2), (3, .int x8), (4, .int x12), (5, .int x14), (6, .int x15), (7, .int x21), (8, .int x28)] → f_X11_draw_L96 x12 x15 x21 k144_25 n x28 x29 f30 = some u → W p l e (g_rm 2 45) s m args below meth c H locs 0 0 Q (F0 m 96 ls []) := by
                      intro n
                      induction n with
                      | zero =>
                        intro x28 x29 f30 H locs ls hw hl h
                        cases (show none = some u from h)
                      | succ n ih96 =>
                        intro x28 x29 f30 H locs ls hw hl h
                        rw [f_X11_draw_L96] at h
                        refine lv_iload hx hb dX11_draw_96 (lv_at hl 7 rfl) ?_
                        refine lv_iload hx hb dX11_draw_98 (lv_at hl 3 rfl) ?_
                        refine lv_icmp_ge (tgt := 144) hx hb dX11_draw_100 (by decide) (fun hc100 => ?_) (fun hc100 => ?_)
                        · rw [if_pos hc100] at h
                          exact hk144_25 x29 f30 _ _ _ hw (lv_sub hl [0, 1, 2, 3, 4, 5, 6] rfl) h
                        · rw [if_neg hc100] at h
                          refine lv_aload_n hx hb dX11_draw_103 rfl (lv_at hl 0 rfl) ?_
                          refine lv_bipush (v := 6) hx hb dX11_draw_104 (by decide) ?_
                          obtain ⟨r31, er31, h⟩ := g_cl_some h
                          refine b_callV hx hb hml hown hT hK hA hw mk_X11_134 (c_X11_random l D g a o r2.1 length printed told x29 backX backY boxes frees bestFree bestTurned bestFirst bestSecond f30 spare r2.2 kept isKept text paper left top wide high original turn boxX boxY boxW boxH freeAtX freeAtY freeW freeH begins ends tried aside (6 : Int32) r31 er31) [0] [] rfl (by decide) 0 0 rfl rfl rfl rfl hl.1 [] rfl (Nat.le_of_ble_eq_true rfl) ⟨Nat.le_of_ble_eq_true rfl, Nat.le_of_ble_eq_true rfl⟩ ⟨Nat.zero_le _, Nat.zero_le _⟩ dX11_draw_106 (wb' := [k_Model g a o r2.1 length printed told r31.2 backX backY boxes frees bestFree bestTurned bestFirst bestSecond f30 spare r2.2 kept isKept text paper left top wide high original turn boxX boxY boxW boxH freeAtX freeAtY freeW freeH begins ends tried aside]) rfl b_e0 1 rfl (by decide) (st2 := [.int r31.1]) rfl (fun H locs hw => ?_)
                          refine lv_iconst (v := 2) hx hb dX11_draw_109 (by decide) ?_
                          refine lv_isub hx hb dX11_draw_110 ?_
                          obtain ⟨x32, ex32, h⟩ := g_bd_nm h
                          refine g_topi ex32 ?_
                          refine lv_istore (lv' := [(9, .int x32), (0, .ref (a o)), (2, .int i2), (3, .int x8), (4, .int x12), (5, .int x14), (6, .int x15), (7, .int x21), (8, .int x28)]) hx hb dX11_draw_111 hl (by decide) rfl (fun ls hl => ?_)
                          refine lv_aload_n hx hb dX11_draw_113 rfl (lv_at hl 1 rfl) ?_
                          refine b_get hx hb hT hK hown fl_X11_7 hw 0 0 rfl rfl (v := .ref (a (o+1))) rfl dX11_draw_114 ?_
                          refine lv_iload hx hb dX11_draw_117 (lv_at hl 6 rfl) ?_
                          refine lv_iload hx hb dX11_draw_119 (lv_at hl 8 rfl) ?_
                          refine lv_iload hx hb dX11_draw_121 (lv_at hl 7 rfl) ?_
                          refine b_callS hx hb hml hown hT hK hA hw mk_X11_118 (c_X11_pixelAt l D g x15 x28 x21) [] [0] rfl (by decide) rfl hl.1 [.ref (a (o+1))] rfl (Nat.le_of_ble_eq_true rfl) ⟨Nat.le_of_ble_eq_true rfl, Nat.le_of_ble_eq_true rfl⟩ ⟨Nat.zero_le _, Nat.zero_le _⟩ dX11_draw_123 (wb' := [k_Model g a o r2.1 length printed told r31.2 backX backY boxes frees bestFree bestTurned bestFirst bestSecond f30 spare r2.2 kept isKept text paper left top wide high original turn boxX boxY boxW boxH freeAtX freeAtY freeW freeH begins ends tried aside]) rfl (b_e1 rfl b_e0) 1 rfl (by decide) (st2 := [.int (f_X11_pixelAt x15 x28 x21), .ref (a (o+1))]) rfl (fun H locs hw => ?_)
                          refine lv_iload hx hb dX11_draw_126 (lv_at hl 0 rfl) ?_
                          obtain ⟨j137_33, ej137_33, h⟩ := g_bd_k h
                          have hj137_33 : ∀ (x33 : Int32) (H : Heap) (locs : List Loc) (ls : Array Slot), b_Wd D A s.heap H locs [k_Model g a o r2.1 length printed told r31.2 backX backY boxes frees bestFree bestTurned bestFirst bestSecond f30 spare r2.2 kept isKept text paper left top wide high original turn boxX boxY boxW boxH freeAtX freeAtY freeW freeH begins ends tried aside] → lv_has ls 10 [(0, .ref (a o)), (2, .int i2), (3, .int x8), (4, .int x12), (5, .int x14), (6, .int x15), (7, .int x21), (8, .int x28)] → j137_33 x33 = some u → W p l e (g_rm 2 45) s m args below meth c H locs 0 0 Q (F0 m 137 ls [.int x33, .int (f_X11_pixelAt x15 x28 x21), .ref (a (o+1))]) := by
                            intro x33 H locs ls hw hl h
                            subst ej137_33
                            dsimp only at h
                            obtain ⟨f34, ef34, hif34, h⟩ := g_wr_some h
                            refine b_iast hx hb hK hw 0 1 rfl (f := f30) rfl hif34 ef34 rfl (wb' := [k_Model g a o r2.1 length printed told r31.2 backX backY boxes frees bestFree bestTurned bestFirst bestSecond f34 spare r2.2 kept isKept text paper left top wide high original turn boxX boxY boxW boxH freeAtX freeAtY freeW freeH begins ends tried aside]) rfl dX11_draw_137 (fun H locs hw => ?_)
                            obtain ⟨x35, ex35, h⟩ := g_bd_nm h
                            refine lv_iinc (v := x35) (lv' := [(8, .int x35), (0, .ref (a o)), (2, .int i2), (3, .int x8), (4, .int x12), (5, .int x14), (6, .int x15), (7, .int x21)]) hx hb dX11_draw_138 hl (k := 7) rfl (by rw [ex35]; rfl) (by decide) rfl (fun ls hl => ?_)
                            refine lv_goto (tgt := 96) hx hb dX11_draw_141 (by decide) ?_
                            exact ih96 x35 r31.2 f34 _ _ _ hw (lv_sub hl [1, 2, 3, 4, 5, 6, 7, 0] rfl) h
                          refine lv_if_ge (tgt := 135) hx hb dX11_draw_128 (by decide) (fun hc128 => ?_) (fun hc128 => ?_)
                          · rw [if_pos hc128] at h
                            refine lv_iload hx hb dX11_draw_135 (lv_at hl 0 rfl) ?_
                            exact hj137_33 x32 _ _ _ hw (lv_sub hl [1, 2, 3, 4, 5, 6, 7, 8] rfl) h
                          · rw [if_neg hc128] at h
                            refine lv_iconst (v := 0) hx hb dX11_draw_131 (by decide) ?_
                            refine lv_goto (tgt := 137) hx hb dX11_draw_132 (by decide) ?_
                            exact hj137_33 (0 : Int32) _ _ _ hw (lv_sub hl [1, 2, 3, 4, 5, 6, 7, 8] rfl) h
                    exact hL96 g_fuel (0 : Int32) x22 f23 _ _ _ hw (lv_sub hl [1, 2, 3, 4, 5, 6, 7, 0] rfl) h
              exact hL86 g_fuel (0 : Int32) r13.2 r16 _ _ _ hw (lv_sub hl [4, 5, 6, 3, 2, 1, 0] rfl) h
        exact hL44 g_fuel (0 : Int32) y3 v _ _ _ hw (lv_sub hl [1, 3, 0] rfl) h
      · rw [if_neg hc26] at h
        refine lv_bipush (v := -2) hx hb dX11_draw_29 (by decide) ?_
        obtain rfl := Option.some.inj h
        exact b_iret hQ hx hb hr hlk hw rfl dX11_draw_31
    · rw [if_pos hc11] at h
      refine lv_iconst (v := -1) hx hb dX11_draw_14 (by decide) ?_
      obtain rfl := Option.some.inj h
      exact b_iret hQ hx hb hr hlk hw rfl dX11_draw_15
set_option maxRecDepth 100000 in
set_option maxHeartbeats 4000000 in
theorem c_X11_sprites (l : Launch) (D : va_G) (g : Nat → ClassId) (a : Nat → Nat) (o : Nat) (pasts : Int32) (length : Int32) (printed : Int32) (told : Int32) (state : Int64) (backX : Int32) (backY : Int32) (boxes : Int32) (frees : Int32) (bestFree : Int32) (bestTurned : Int32) (bestFirst : Int32) (bestSecond : Int32) (v : (Nat → Int32)) (spare : (Nat → Int32)) (past : (Nat → Int32)) (kept : (Nat → Int32)) (isKept : (Nat → Int32)) (text : (Nat → Int32)) (paper : (Nat → Int32)) (left : (Nat → Int32)) (top : (Nat → Int32)) (wide : (Nat → Int32)) (high : (Nat → Int32)) (original : (Nat → Int32)) (turn : (Nat → Int32)) (boxX : (Nat → Int32)) (boxY : (Nat → Int32)) (boxW : (Nat → Int32)) (boxH : (Nat → Int32)) (freeAtX : (Nat → Int32)) (freeAtY : (Nat → Int32)) (freeW : (Nat → Int32)) (freeH : (Nat → Int32)) (begins : (Nat → Int32)) (ends : (Nat → Int32)) (tried : (Nat → Int32)) (aside : (Nat → Int32)) (u : Int32) (h : f_X11_sprites v = some u) : b_Ct l yX11_sprites cX11_sprites 1 (some .int) 0 0 D g [.ref (a o)] [k_Model g a o pasts length printed told state backX backY boxes frees bestFree bestTurned bestFirst bestSecond v spare past kept isKept text paper left top wide high original turn boxX boxY boxW boxH freeAtX freeAtY freeW freeH begins ends tried aside] [k_Model g a o pasts length printed told state backX backY boxes frees bestFree bestTurned bestFirst bestSecond v spare past kept isKept text paper left top wide high original turn boxX boxY boxW boxH freeAtX freeAtY freeW freeH begins ends tried aside] (some (.int u)) := by
  refine b_start RX11 (by decide) rfl (Nat.le_of_ble_eq_true rfl) rfl ?_
  intro p e s m args below meth c A ls Q hQ hx hb hr hlk hml hown hT hK hA hw hl
  have hl : lv_has ls 1 [(0, .ref (a o))] := hl
  unfold f_X11_sprites at h
  refine lv_aload_n hx hb dX11_sprites_0 rfl (lv_at hl 0 rfl) ?_
  refine b_get hx hb hT hK hown fl_X11_7 hw 0 0 rfl rfl (v := .ref (a (o+1))) rfl dX11_sprites_1 ?_
  refine lv_iconst (v := 0) hx hb dX11_sprites_4 (by decide) ?_
  obtain ⟨x1, ex1, hix1, h⟩ := g_rd_some h
  refine b_iald hx hb hK hw 0 1 rfl (f := v) rfl hix1 ex1 dX11_sprites_5 ?_
  obtain rfl := Option.some.inj h
  exact b_iret hQ hx hb hr hlk hw rfl dX11_sprites_6
set_option maxRecDepth 100000 in
set_option maxHeartbeats 4000000 in
theorem c_X11_width (l : Launch) (D : va_G) (g : Nat → ClassId) (a : Nat → Nat) (o : Nat) (pasts : Int32) (length : Int32) (printed : Int32) (told : Int32) (state : Int64) (backX : Int32) (backY : Int32) (boxes : Int32) (frees : Int32) (bestFree : Int32) (bestTurned : Int32) (bestFirst : Int32) (bestSecond : Int32) (v : (Nat → Int32)) (spare : (Nat → Int32)) (past : (Nat → Int32)) (kept : (Nat → Int32)) (isKept : (Nat → Int32)) (text : (Nat → Int32)) (paper : (Nat → Int32)) (left : (Nat → Int32)) (top : (Nat → Int32)) (wide : (Nat → Int32)) (high : (Nat → Int32)) (original : (Nat → Int32)) (turn : (Nat → Int32)) (boxX : (Nat → Int32)) (boxY : (Nat → Int32)) (boxW : (Nat → Int32)) (boxH : (Nat → Int32)) (freeAtX : (Nat → Int32)) (freeAtY : (Nat → Int32)) (freeW : (Nat → Int32)) (freeH : (Nat → Int32)) (begins : (Nat → Int32)) (ends : (Nat → Int32)) (tried : (Nat → Int32)) (aside : (Nat → Int32)) (i1 : Int32) (u : Int32) (h : f_X11_width v i1 = some u) : b_Ct l yX11_width cX11_width 2 (some .int) 2 43 D g [.ref (a o), .int i1] [k_Model g a o pasts length printed told state backX backY boxes frees bestFree bestTurned bestFirst bestSecond v spare past kept isKept text paper left top wide high original turn boxX boxY boxW boxH freeAtX freeAtY freeW freeH begins ends tried aside] [k_Model g a o pasts length printed told state backX backY boxes frees bestFree bestTurned bestFirst bestSecond v spare past kept isKept text paper left top wide high original turn boxX boxY boxW boxH freeAtX freeAtY freeW freeH begins ends tried aside] (some (.int u)) := by
  refine b_start RX11 (by decide) rfl (Nat.le_of_ble_eq_true rfl) rfl ?_
  intro p e s m args below meth c A ls Q hQ hx hb hr hlk hml hown hT hK hA hw hl
  have hl : lv_has ls 2 [(0, .ref (a o)), (1, .int i1)] := hl
  unfold f_X11_width at h
  refine lv_aload_n hx hb dX11_width_0 rfl (lv_at hl 0 rfl) ?_
  refine lv_iload_n hx hb dX11_width_1 rfl (lv_at hl 1 rfl) ?_
  obtain ⟨r1, er1, h⟩ := g_cl_some h
  refine b_callV hx hb hml hown hT hK hA hw mk_X11_138 (c_X11_isSprite l D g a o pasts length printed told state backX backY boxes frees bestFree bestTurned bestFirst bestSecond v spare past kept isKept text paper left top wide high original turn boxX boxY boxW boxH freeAtX freeAtY freeW freeH begins ends tried aside i1 r1 er1) [0] [] rfl (by decide) 0 0 rfl rfl rfl rfl hl.1 [] rfl (Nat.le_of_ble_eq_true rfl) ⟨Nat.le_of_ble_eq_true rfl, Nat.le_of_ble_eq_true rfl⟩ ⟨Nat.zero_le _, Nat.zero_le _⟩ dX11_width_2 (wb' := [k_Model g a o pasts length printed told state backX backY boxes frees bestFree bestTurned bestFirst bestSecond v spare past kept isKept text paper left top wide high original turn boxX boxY boxW boxH freeAtX freeAtY freeW freeH begins ends tried aside]) rfl b_e0 1 rfl (by decide) (st2 := [.int r1]) rfl (fun H locs hw => ?_)
  refine lv_if_eq (tgt := 21) hx hb dX11_width_5 (by decide) (fun hc5 => ?_) (fun hc5 => ?_)
  · rw [if_pos hc5] at h
    refine lv_iconst (v := -1) hx hb dX11_width_21 (by decide) ?_
    obtain rfl := Option.some.inj h
    exact b_iret hQ hx hb hr hlk hw rfl dX11_width_22
  · rw [if_neg hc5] at h
    refine lv_aload_n hx hb dX11_width_8 rfl (lv_at hl 0 rfl) ?_
    refine b_get hx hb hT hK hown fl_X11_7 hw 0 0 rfl rfl (v := .ref (a (o+1))) rfl dX11_width_9 ?_
    refine lv_iload_n hx hb dX11_width_12 rfl (lv_at hl 1 rfl) ?_
    refine lv_iconst (v := 0) hx hb dX11_width_13 (by decide) ?_
    refine b_callS hx hb hml hown hT hK hA hw mk_X11_94 (c_X11_at l D g i1 (0 : Int32)) [] [0] rfl (by decide) rfl hl.1 [.ref (a (o+1))] rfl (Nat.le_of_ble_eq_true rfl) ⟨Nat.le_of_ble_eq_true rfl, Nat.le_of_ble_eq_true rfl⟩ ⟨Nat.zero_le _, Nat.zero_le _⟩ dX11_width_14 (wb' := [k_Model g a o pasts length printed told state backX backY boxes frees bestFree bestTurned bestFirst bestSecond v spare past kept isKept text paper left top wide high original turn boxX boxY boxW boxH freeAtX freeAtY freeW freeH begins ends tried aside]) rfl (b_e1 rfl b_e0) 1 rfl (by decide) (st2 := [.int (f_X11_at i1 (0 : Int32)), .ref (a (o+1))]) rfl (fun H locs hw => ?_)
    obtain ⟨x2, ex2, hix2, h⟩ := g_rd_some h
    refine b_iald hx hb hK hw 0 1 rfl (f := v) rfl hix2 ex2 dX11_width_17 ?_
    refine lv_goto (tgt := 22) hx hb dX11_width_18 (by decide) ?_
    obtain rfl := Option.some.inj h
    exact b_iret hQ hx hb hr hlk hw rfl dX11_width_22
