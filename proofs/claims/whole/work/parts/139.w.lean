set_option maxRecDepth 100000 in
set_option maxHeartbeats 4000000 in
theorem c_X11_faultOf (l : Launch) (D : va_G) (g : Nat → ClassId) (a : Nat → Nat) (o : Nat) (pasts : Int32) (length : Int32) (printed : Int32) (told : Int32) (state : Int64) (backX : Int32) (backY : Int32) (boxes : Int32) (frees : Int32) (bestFree : Int32) (bestTurned : Int32) (bestFirst : Int32) (bestSecond : Int32) (v : (Nat → Int32)) (spare : (Nat → Int32)) (past : (Nat → Int32)) (kept : (Nat → Int32)) (isKept : (Nat → Int32)) (text : (Nat → Int32)) (paper : (Nat → Int32)) (left : (Nat → Int32)) (top : (Nat → Int32)) (wide : (Nat → Int32)) (high : (Nat → Int32)) (original : (Nat → Int32)) (turn : (Nat → Int32)) (boxX : (Nat → Int32)) (boxY : (Nat → Int32)) (boxW : (Nat → Int32)) (boxH : (Nat → Int32)) (freeAtX : (Nat → Int32)) (freeAtY : (Nat → Int32)) (freeW : (Nat → Int32)) (freeH : (Nat → Int32)) (begins : (Nat → Int32)) (ends : (Nat → Int32)) (tried : (Nat → Int32)) (aside : (Nat → Int32)) (u : Int32 × Int32) (h : f_X11_faultOf length text = some u) : b_Ct l yX11_faultOf cX11_faultOf 7 (some .int) 1 22 D g [.ref (a o)] [k_Model g a o pasts length printed told state backX backY boxes frees bestFree bestTurned bestFirst bestSecond v spare past kept isKept text paper left top wide high original turn boxX boxY boxW boxH freeAtX freeAtY freeW freeH begins ends tried aside] [k_Model g a o pasts length printed u.2 state backX backY boxes frees bestFree bestTurned bestFirst bestSecond v spare past kept isKept text paper left top wide high original turn boxX boxY boxW boxH freeAtX freeAtY freeW freeH begins ends tried aside] (some (.int u.1)) := by
  refine b_start RX11 (by decide) rfl (Nat.le_of_ble_eq_true rfl) rfl ?_
  intro p e s m args below meth c A ls Q hQ hx hb hr hlk hml hown hT hK hA hw hl
  have hl : lv_has ls 7 [(0, .ref (a o))] := hl
  unfold f_X11_faultOf at h
  refine lv_aload_n hx hb dX11_faultOf_0 rfl (lv_at hl 0 rfl) ?_
  refine lv_iconst (v := 0) hx hb dX11_faultOf_1 (by decide) ?_
  refine b_putf hx hb hT hK hown fl_X11_107 ft_X11 hw 0 0 rfl rfl rfl rfl rfl (Nat.le_of_ble_eq_true rfl) rfl (wb' := [k_Model g a o pasts length printed (0 : Int32) state backX backY boxes frees bestFree bestTurned bestFirst bestSecond v spare past kept isKept text paper left top wide high original turn boxX boxY boxW boxH freeAtX freeAtY freeW freeH begins ends tried aside]) rfl dX11_faultOf_2 (fun H locs hw => ?_)
  refine lv_iconst (v := 0) hx hb dX11_faultOf_5 (by decide) ?_
  refine lv_istore_n (lv' := [(1, .int (0 : Int32)), (0, .ref (a o))]) hx hb dX11_faultOf_6 rfl hl (by decide) rfl (fun ls hl => ?_)
  refine lv_iconst (v := 0) hx hb dX11_faultOf_7 (by decide) ?_
  refine lv_istore_n (lv' := [(2, .int (0 : Int32)), (1, .int (0 : Int32)), (0, .ref (a o))]) hx hb dX11_faultOf_8 rfl hl (by decide) rfl (fun ls hl => ?_)
  refine lv_iconst (v := 0) hx hb dX11_faultOf_9 (by decide) ?_
  refine lv_istore_n (lv' := [(3, .int (0 : Int32)), (2, .int (0 : Int32)), (1, .int (0 : Int32)), (0, .ref (a o))]) hx hb dX11_faultOf_10 rfl hl (by decide) rfl (fun ls hl => ?_)
  refine lv_iconst (v := 0) hx hb dX11_faultOf_11 (by decide) ?_
  refine lv_istore (lv' := [(4, .int (0 : Int32)), (3, .int (0 : Int32)), (2, .int (0 : Int32)), (1, .int (0 : Int32)), (0, .ref (a o))]) hx hb dX11_faultOf_12 hl (by decide) rfl (fun ls hl => ?_)
  obtain ⟨k154_3, ek154_3, h⟩ := g_jn_nm h
  have hk154_3 : ∀ (x1 : Int32) (x2 : Int32) (x3 : Int32) (H : Heap) (locs : List Loc) (ls : Array Slot), b_Wd D A s.heap H locs [k_Model g a o pasts length printed x3 state backX backY boxes frees bestFree bestTurned bestFirst bestSecond v spare past kept isKept text paper left top wide high original turn boxX boxY boxW boxH freeAtX freeAtY freeW freeH begins ends tried aside] → lv_has ls 7 [(0, .ref (a o)), (1, .int x1), (2, .int x2)] → k154_3 x1 x2 x3 = some u → W p l e (g_rm 1 22) s m args below meth c H locs 0 0 Q (F0 m 154 ls []) := by
    intro x1 x2 x3 H locs ls hw hl h
    subst ek154_3
    dsimp only at h
    refine lv_iload_n hx hb dX11_faultOf_154 rfl (lv_at hl 1 rfl) ?_
    obtain ⟨j162_4, ej162_4, h⟩ := g_jn_nm h
    have hj162_4 : ∀ (H : Heap) (locs : List Loc) (ls : Array Slot), b_Wd D A s.heap H locs [k_Model g a o pasts length printed x3 state backX backY boxes frees bestFree bestTurned bestFirst bestSecond v spare past kept isKept text paper left top wide high original turn boxX boxY boxW boxH freeAtX freeAtY freeW freeH begins ends tried aside] → lv_has ls 7 [(0, .ref (a o))] → j162_4 = some u → W p l e (g_rm 1 22) s m args below meth c H locs 0 0 Q (F0 m 162 ls []) := by
      intro  H locs ls hw hl h
      subst ej162_4
      refine lv_aload_n hx hb dX11_faultOf_162 rfl (lv_at hl 0 rfl) ?_
      refine b_get hx hb hT hK hown fl_X11_104 hw 0 0 rfl rfl (v := .int length) rfl dX11_faultOf_163 ?_
      refine lv_goto (tgt := 170) hx hb dX11_faultOf_166 (by decide) ?_
      obtain rfl := Option.some.inj h
      exact b_iret hQ hx hb hr hlk hw rfl dX11_faultOf_170
    refine lv_if_gt (tgt := 162) hx hb dX11_faultOf_155 (by decide) (fun hc155 => ?_) (fun hc155 => ?_)
    · rw [if_pos hc155] at h
      exact hj162_4  _ _ _ hw (lv_sub hl [0] rfl) h
    · rw [if_neg hc155] at h
      refine lv_iload_n hx hb dX11_faultOf_158 rfl (lv_at hl 2 rfl) ?_
      refine lv_if_le (tgt := 169) hx hb dX11_faultOf_159 (by decide) (fun hc159 => ?_) (fun hc159 => ?_)
      · rw [if_pos hc159] at h
        refine lv_iconst (v := -1) hx hb dX11_faultOf_169 (by decide) ?_
        obtain rfl := Option.some.inj h
        exact b_iret hQ hx hb hr hlk hw rfl dX11_faultOf_170
      · rw [if_neg hc159] at h
        exact hj162_4  _ _ _ hw (lv_sub hl [0] rfl) h
  have hL14 : ∀ (n : Nat) (x6 : Int32) (x7 : Int32) (x8 : Int32) (x9 : Int32) (x10 : Int32) (H : Heap) (locs : List Loc) (ls : Array Slot), b_Wd D A s.heap H locs [k_Model g a o pasts length printed x10 state backX backY boxes frees bestFree bestTurned bestFirst bestSecond v spare past kept isKept text paper left top wide high original turn boxX boxY boxW boxH freeAtX freeAtY freeW freeH begins ends tried aside] → lv_has ls 7 [(0, .ref (a o)), (1, .int x6), (2, .int x7), (3, .int x8), (4, .int x9)] → f_X11_faultOf_L14 length text k154_3 n x6 x7 x8 x9 x10 = some u → W p l e (g_rm 1 22) s m args below meth c H locs 0 0 Q (F0 m 14 ls []) := by
    intro n
    induction n with
    | zero =>
      intro x6 x7 x8 x9 x10 H locs ls hw hl h
      cases (show none = some u from h)
    | succ n ih14 =>
      intro x6 x7 x8 x9 x10 H locs ls hw hl h
      rw [f_X11_faultOf_L14] at h
      refine lv_iload hx hb dX11_faultOf_14 (lv_at hl 4 rfl) ?_
      refine lv_aload_n hx hb dX11_faultOf_16 rfl (lv_at hl 0 rfl) ?_
      refine b_get hx hb hT hK hown fl_X11_104 hw 0 0 rfl rfl (v := .int length) rfl dX11_faultOf_17 ?_
      refine lv_icmp_ge (tgt := 154) hx hb dX11_faultOf_20 (by decide) (fun hc20 => ?_) (fun hc20 => ?_)
      · rw [if_pos hc20] at h
        exact hk154_3 x6 x7 x10 _ _ _ hw (lv_sub hl [0, 1, 2] rfl) h
      · rw [if_neg hc20] at h
        refine lv_aload_n hx hb dX11_faultOf_23 rfl (lv_at hl 0 rfl) ?_
        refine b_get hx hb hT hK hown fl_X11_26 hw 0 0 rfl rfl (v := .ref (a (o+6))) rfl dX11_faultOf_24 ?_
        refine lv_iload hx hb dX11_faultOf_27 (lv_at hl 4 rfl) ?_
        obtain ⟨x11, ex11, hix11, h⟩ := g_rd_some h
        refine b_iald hx hb hK hw 0 6 rfl (f := text) rfl hix11 ex11 dX11_faultOf_29 ?_
        refine lv_istore (lv' := [(5, .int x11), (0, .ref (a o)), (1, .int x6), (2, .int x7), (3, .int x8), (4, .int x9)]) hx hb dX11_faultOf_30 hl (by decide) rfl (fun ls hl => ?_)
        refine lv_iload_n hx hb dX11_faultOf_32 rfl (lv_at hl 2 rfl) ?_
        obtain ⟨j50_12, ej50_12, h⟩ := g_jn_nm h
        have hj50_12 : ∀ (x12 : Int32) (H : Heap) (locs : List Loc) (ls : Array Slot), b_Wd D A s.heap H locs [k_Model g a o pasts length printed x10 state backX backY boxes frees bestFree bestTurned bestFirst bestSecond v spare past kept isKept text paper left top wide high original turn boxX boxY boxW boxH freeAtX freeAtY freeW freeH begins ends tried aside] → lv_has ls 7 [(0, .ref (a o)), (1, .int x6), (2, .int x7), (3, .int x8), (4, .int x9), (5, .int x11)] → j50_12 x12 = some u → W p l e (g_rm 1 22) s m args below meth c H locs 0 0 Q (F0 m 50 ls [.int x12]) := by
          intro x12 H locs ls hw hl h
          subst ej50_12
          dsimp only at h
          refine lv_istore (lv' := [(6, .int x12), (0, .ref (a o)), (1, .int x6), (2, .int x7), (3, .int x8), (4, .int x9), (5, .int x11)]) hx hb dX11_faultOf_50 hl (by decide) rfl (fun ls hl => ?_)
          refine lv_iload hx hb dX11_faultOf_52 (lv_at hl 6 rfl) ?_
          refine lv_bipush (v := 48) hx hb dX11_faultOf_54 (by decide) ?_
          refine lv_bipush (v := 57) hx hb dX11_faultOf_56 (by decide) ?_
          refine b_callS hx hb hml hown hT hK hA hw mk_X11_86 (c_X11_in l D g x11 (48 : Int32) (57 : Int32)) [] [0] rfl (by decide) rfl hl.1 [] rfl (Nat.le_of_ble_eq_true rfl) ⟨Nat.le_of_ble_eq_true rfl, Nat.le_of_ble_eq_true rfl⟩ ⟨Nat.zero_le _, Nat.zero_le _⟩ dX11_faultOf_58 (wb' := [k_Model g a o pasts length printed x10 state backX backY boxes frees bestFree bestTurned bestFirst bestSecond v spare past kept isKept text paper left top wide high original turn boxX boxY boxW boxH freeAtX freeAtY freeW freeH begins ends tried aside]) rfl (b_e1 rfl b_e0) 1 rfl (by decide) (st2 := [.int (f_X11_in x11 (48 : Int32) (57 : Int32))]) rfl (fun H locs hw => ?_)
          obtain ⟨j148_17, ej148_17, h⟩ := g_jn_nm h
          have hj148_17 : ∀ (x14 : Int32) (x15 : Int32) (x16 : Int32) (x17 : Int32) (H : Heap) (locs : List Loc) (ls : Array Slot), b_Wd D A s.heap H locs [k_Model g a o pasts length printed x17 state backX backY boxes frees bestFree bestTurned bestFirst bestSecond v spare past kept isKept text paper left top wide high original turn boxX boxY boxW boxH freeAtX freeAtY freeW freeH begins ends tried aside] → lv_has ls 7 [(0, .ref (a o)), (1, .int x14), (2, .int x15), (3, .int x16), (4, .int x9)] → j148_17 x14 x15 x16 x17 = some u → W p l e (g_rm 1 22) s m args below meth c H locs 0 0 Q (F0 m 148 ls []) := by
            intro x14 x15 x16 x17 H locs ls hw hl h
            subst ej148_17
            dsimp only at h
            obtain ⟨x19, ex19, h⟩ := g_bd_nm h
            refine lv_iinc (v := x19) (lv' := [(4, .int x19), (0, .ref (a o)), (1, .int x14), (2, .int x15), (3, .int x16)]) hx hb dX11_faultOf_148 hl (k := 4) rfl (by rw [ex19]; rfl) (by decide) rfl (fun ls hl => ?_)
            refine lv_goto (tgt := 14) hx hb dX11_faultOf_151 (by decide) ?_
            exact ih14 x14 x15 x16 x19 x17 _ _ _ hw (lv_sub hl [1, 2, 3, 4, 0] rfl) h
          refine lv_if_eq (tgt := 88) hx hb dX11_faultOf_61 (by decide) (fun hc61 => ?_) (fun hc61 => ?_)
          · rw [if_pos hc61] at h
            refine lv_iload hx hb dX11_faultOf_88 (lv_at hl 6 rfl) ?_
            refine lv_bipush (v := 47) hx hb dX11_faultOf_90 (by decide) ?_
            obtain ⟨j116_19, ej116_19, h⟩ := g_jn_nm h
            have hj116_19 : ∀ (H : Heap) (locs : List Loc) (ls : Array Slot), b_Wd D A s.heap H locs [k_Model g a o pasts length printed x10 state backX backY boxes frees bestFree bestTurned bestFirst bestSecond v spare past kept isKept text paper left top wide high original turn boxX boxY boxW boxH freeAtX freeAtY freeW freeH begins ends tried aside] → lv_has ls 7 [(0, .ref (a o)), (3, .int x8), (4, .int x9), (5, .int x11), (6, .int x12)] → j116_19 = some u → W p l e (g_rm 1 22) s m args below meth c H locs 0 0 Q (F0 m 116 ls []) := by
              intro  H locs ls hw hl h
              subst ej116_19
              refine lv_iload hx hb dX11_faultOf_116 (lv_at hl 3 rfl) ?_
              refine lv_bipush (v := 59) hx hb dX11_faultOf_118 (by decide) ?_
              refine lv_icmp_ne (tgt := 145) hx hb dX11_faultOf_120 (by decide) (fun hc120 => ?_) (fun hc120 => ?_)
              · rw [if_neg hc120] at h
                refine lv_iload hx hb dX11_faultOf_145 (lv_at hl 2 rfl) ?_
                obtain rfl := Option.some.inj h
                exact b_iret hQ hx hb hr hlk hw rfl dX11_faultOf_147
              · rw [if_pos hc120] at h
                refine lv_iload hx hb dX11_faultOf_123 (lv_at hl 4 rfl) ?_
                refine lv_if_eq (tgt := 145) hx hb dX11_faultOf_125 (by decide) (fun hc125 => ?_) (fun hc125 => ?_)
                · rw [if_pos hc125] at h
                  refine lv_iload hx hb dX11_faultOf_145 (lv_at hl 2 rfl) ?_
                  obtain rfl := Option.some.inj h
                  exact b_iret hQ hx hb hr hlk hw rfl dX11_faultOf_147
                · rw [if_neg hc125] at h
                  refine lv_aload_n hx hb dX11_faultOf_128 rfl (lv_at hl 0 rfl) ?_
                  refine lv_dup hx hb dX11_faultOf_129 rfl ?_
                  refine b_get hx hb hT hK hown fl_X11_107 hw 0 0 rfl rfl (v := .int x10) rfl dX11_faultOf_130 ?_
                  refine lv_iconst (v := 1) hx hb dX11_faultOf_133 (by decide) ?_
                  refine lv_iadd hx hb dX11_faultOf_134 ?_
                  obtain ⟨x21, ex21, h⟩ := g_bd_nm h
                  refine g_topi ex21 ?_
                  refine b_putf hx hb hT hK hown fl_X11_107 ft_X11 hw 0 0 rfl rfl rfl rfl rfl (Nat.le_of_ble_eq_true rfl) rfl (wb' := [k_Model g a o pasts length printed x21 state backX backY boxes frees bestFree bestTurned bestFirst bestSecond v spare past kept isKept text paper left top wide high original turn boxX boxY boxW boxH freeAtX freeAtY freeW freeH begins ends tried aside]) rfl dX11_faultOf_135 (fun H locs hw => ?_)
                  refine lv_iconst (v := 0) hx hb dX11_faultOf_138 (by decide) ?_
                  refine lv_istore_n (lv' := [(1, .int (0 : Int32)), (0, .ref (a o)), (3, .int x8), (4, .int x9), (5, .int x11), (6, .int x12)]) hx hb dX11_faultOf_139 rfl hl (by decide) rfl (fun ls hl => ?_)
                  refine lv_iconst (v := 0) hx hb dX11_faultOf_140 (by decide) ?_
                  refine lv_istore_n (lv' := [(2, .int (0 : Int32)), (1, .int (0 : Int32)), (0, .ref (a o)), (3, .int x8), (4, .int x9), (5, .int x11), (6, .int x12)]) hx hb dX11_faultOf_141 rfl hl (by decide) rfl (fun ls hl => ?_)
                  refine lv_goto (tgt := 148) hx hb dX11_faultOf_142 (by decide) ?_
                  exact hj148_17 (0 : Int32) (0 : Int32) x8 x21 _ _ _ hw (lv_sub hl [2, 1, 0, 3, 4] rfl) h
            refine lv_icmp_ne (tgt := 116) hx hb dX11_faultOf_92 (by decide) (fun hc92 => ?_) (fun hc92 => ?_)
            · rw [if_neg hc92] at h
              exact hj116_19  _ _ _ hw (lv_sub hl [1, 4, 5, 6, 0] rfl) h
            · rw [if_pos hc92] at h
              refine lv_iload hx hb dX11_faultOf_95 (lv_at hl 0 rfl) ?_
              refine lv_if_eq (tgt := 116) hx hb dX11_faultOf_97 (by decide) (fun hc97 => ?_) (fun hc97 => ?_)
              · rw [if_pos hc97] at h
                exact hj116_19  _ _ _ hw (lv_sub hl [1, 4, 5, 6, 0] rfl) h
              · rw [if_neg hc97] at h
                refine lv_iload_n hx hb dX11_faultOf_100 rfl (lv_at hl 3 rfl) ?_
                refine lv_bipush (v := 7) hx hb dX11_faultOf_101 (by decide) ?_
                refine lv_icmp_ge (tgt := 116) hx hb dX11_faultOf_103 (by decide) (fun hc103 => ?_) (fun hc103 => ?_)
                · rw [if_pos hc103] at h
                  exact hj116_19  _ _ _ hw (lv_sub hl [1, 4, 5, 6, 0] rfl) h
                · rw [if_neg hc103] at h
                  refine lv_iload_n hx hb dX11_faultOf_106 rfl (lv_at hl 2 rfl) ?_
                  refine lv_istore_n (lv' := [(3, .int x6), (6, .int x12), (0, .ref (a o)), (1, .int x6), (2, .int x7), (4, .int x9), (5, .int x11)]) hx hb dX11_faultOf_107 rfl hl (by decide) rfl (fun ls hl => ?_)
                  refine lv_iconst (v := 0) hx hb dX11_faultOf_108 (by decide) ?_
                  refine lv_istore_n (lv' := [(1, .int (0 : Int32)), (3, .int x6), (6, .int x12), (0, .ref (a o)), (2, .int x7), (4, .int x9), (5, .int x11)]) hx hb dX11_faultOf_109 rfl hl (by decide) rfl (fun ls hl => ?_)
                  obtain ⟨x22, ex22, h⟩ := g_bd_nm h
                  refine lv_iinc (v := x22) (lv' := [(2, .int x22), (1, .int (0 : Int32)), (3, .int x6), (6, .int x12), (0, .ref (a o)), (4, .int x9), (5, .int x11)]) hx hb dX11_faultOf_110 hl (k := 4) rfl (by rw [ex22]; rfl) (by decide) rfl (fun ls hl => ?_)
                  refine lv_goto (tgt := 148) hx hb dX11_faultOf_113 (by decide) ?_
                  exact hj148_17 (0 : Int32) x22 x6 x10 _ _ _ hw (lv_sub hl [4, 1, 0, 2, 5] rfl) h
          · rw [if_neg hc61] at h
            refine lv_iload_n hx hb dX11_faultOf_64 rfl (lv_at hl 2 rfl) ?_
            refine lv_bipush (v := 8) hx hb dX11_faultOf_65 (by decide) ?_
            refine lv_icmp_eq (tgt := 79) hx hb dX11_faultOf_67 (by decide) (fun hc67 => ?_) (fun hc67 => ?_)
            · rw [if_pos hc67] at h
              refine lv_iload hx hb dX11_faultOf_79 (lv_at hl 5 rfl) ?_
              obtain rfl := Option.some.inj h
              exact b_iret hQ hx hb hr hlk hw rfl dX11_faultOf_81
            · rw [if_neg hc67] at h
              refine lv_iload_n hx hb dX11_faultOf_70 rfl (lv_at hl 3 rfl) ?_
              obtain ⟨j82_22, ej82_22, h⟩ := g_jn_nm h
              have hj82_22 : ∀ (H : Heap) (locs : List Loc) (ls : Array Slot), b_Wd D A s.heap H locs [k_Model g a o pasts length printed x10 state backX backY boxes frees bestFree bestTurned bestFirst bestSecond v spare past kept isKept text paper left top wide high original turn boxX boxY boxW boxH freeAtX freeAtY freeW freeH begins ends tried aside] → lv_has ls 7 [(0, .ref (a o)), (1, .int x6), (2, .int x7), (3, .int x8), (4, .int x9)] → j82_22 = some u → W p l e (g_rm 1 22) s m args below meth c H locs 0 0 Q (F0 m 82 ls []) := by
                intro  H locs ls hw hl h
                subst ej82_22
                obtain ⟨x24, ex24, h⟩ := g_bd_nm h
                refine lv_iinc (v := x24) (lv' := [(1, .int x24), (0, .ref (a o)), (2, .int x7), (3, .int x8), (4, .int x9)]) hx hb dX11_faultOf_82 hl (k := 1) rfl (by rw [ex24]; rfl) (by decide) rfl (fun ls hl => ?_)
                refine lv_goto (tgt := 148) hx hb dX11_faultOf_85 (by decide) ?_
                exact hj148_17 x24 x7 x8 x10 _ _ _ hw (lv_sub hl [1, 0, 2, 3, 4] rfl) h
              refine lv_if_le (tgt := 82) hx hb dX11_faultOf_71 (by decide) (fun hc71 => ?_) (fun hc71 => ?_)
              · rw [if_pos hc71] at h
                exact hj82_22  _ _ _ hw (lv_sub hl [1, 2, 3, 4, 5] rfl) h
              · rw [if_neg hc71] at h
                refine lv_iload_n hx hb dX11_faultOf_74 rfl (lv_at hl 2 rfl) ?_
                refine lv_iload_n hx hb dX11_faultOf_75 rfl (lv_at hl 4 rfl) ?_
                refine lv_icmp_ne (tgt := 82) hx hb dX11_faultOf_76 (by decide) (fun hc76 => ?_) (fun hc76 => ?_)
                · rw [if_neg hc76] at h
                  exact hj82_22  _ _ _ hw (lv_sub hl [1, 2, 3, 4, 5] rfl) h
                · rw [if_pos hc76] at h
                  refine lv_iload hx hb dX11_faultOf_79 (lv_at hl 5 rfl) ?_
                  obtain rfl := Option.some.inj h
                  exact b_iret hQ hx hb hr hlk hw rfl dX11_faultOf_81
        obtain ⟨j49_24, ej49_24, h⟩ := g_jn_nm h
        have hj49_24 : ∀ (H : Heap) (locs : List Loc) (ls : Array Slot), b_Wd D A s.heap H locs [k_Model g a o pasts length printed x10 state backX backY boxes frees bestFree bestTurned bestFirst bestSecond v spare past kept isKept text paper left top wide high original turn boxX boxY boxW boxH freeAtX freeAtY freeW freeH begins ends tried aside] → lv_has ls 7 [(0, .ref (a o)), (1, .int x6), (2, .int x7), (3, .int x8), (4, .int x9), (5, .int x11)] → j49_24 = some u → W p l e (g_rm 1 22) s m args below meth c H locs 0 0 Q (F0 m 49 ls []) := by
          intro  H locs ls hw hl h
          subst ej49_24
          refine lv_iconst (v := 0) hx hb dX11_faultOf_49 (by decide) ?_
          exact hj50_12 (0 : Int32) _ _ _ hw (lv_sub hl [0, 1, 2, 3, 4, 5] rfl) h
        refine lv_if_le (tgt := 49) hx hb dX11_faultOf_33 (by decide) (fun hc33 => ?_) (fun hc33 => ?_)
        · rw [if_pos hc33] at h
          exact hj49_24  _ _ _ hw (lv_sub hl [1, 2, 3, 4, 5, 0] rfl) h
        · rw [if_neg hc33] at h
          refine lv_iload_n hx hb dX11_faultOf_36 rfl (lv_at hl 3 rfl) ?_
          obtain ⟨j45_25, ej45_25, h⟩ := g_jn_nm h
          have hj45_25 : ∀ (H : Heap) (locs : List Loc) (ls : Array Slot), b_Wd D A s.heap H locs [k_Model g a o pasts length printed x10 state backX backY boxes frees bestFree bestTurned bestFirst bestSecond v spare past kept isKept text paper left top wide high original turn boxX boxY boxW boxH freeAtX freeAtY freeW freeH begins ends tried aside] → lv_has ls 7 [(0, .ref (a o)), (1, .int x6), (2, .int x7), (3, .int x8), (4, .int x9), (5, .int x11)] → j45_25 = some u → W p l e (g_rm 1 22) s m args below meth c H locs 0 0 Q (F0 m 45 ls []) := by
            intro  H locs ls hw hl h
            subst ej45_25
            refine lv_iconst (v := 1) hx hb dX11_faultOf_45 (by decide) ?_
            refine lv_goto (tgt := 50) hx hb dX11_faultOf_46 (by decide) ?_
            exact hj50_12 (1 : Int32) _ _ _ hw (lv_sub hl [0, 1, 2, 3, 4, 5] rfl) h
          refine lv_if_eq (tgt := 45) hx hb dX11_faultOf_37 (by decide) (fun hc37 => ?_) (fun hc37 => ?_)
          · rw [if_pos hc37] at h
            exact hj45_25  _ _ _ hw (lv_sub hl [1, 2, 3, 4, 5, 0] rfl) h
          · rw [if_neg hc37] at h
            refine lv_iload_n hx hb dX11_faultOf_40 rfl (lv_at hl 2 rfl) ?_
            refine lv_iload_n hx hb dX11_faultOf_41 rfl (lv_at hl 4 rfl) ?_
            refine lv_icmp_ne (tgt := 49) hx hb dX11_faultOf_42 (by decide) (fun hc42 => ?_) (fun hc42 => ?_)
            · rw [if_neg hc42] at h
              exact hj49_24  _ _ _ hw (lv_sub hl [1, 2, 3, 4, 5, 0] rfl) h
            · rw [if_pos hc42] at h
              exact hj45_25  _ _ _ hw (lv_sub hl [1, 2, 3, 4, 5, 0] rfl) h
  exact hL14 g_fuel (0 : Int32) (0 : Int32) (0 : Int32) (0 : Int32) (0 : Int32) _ _ _ hw (lv_sub hl [4, 3, 2, 1, 0] rfl) h
set_option maxRecDepth 100000 in
set_option maxHeartbeats 4000000 in
theorem c_X11_faultPosition (l : Launch) (D : va_G) (g : Nat → ClassId) (a : Nat → Nat) (o : Nat) (pasts : Int32) (length : Int32) (printed : Int32) (told : Int32) (state : Int64) (backX : Int32) (backY : Int32) (boxes : Int32) (frees : Int32) (bestFree : Int32) (bestTurned : Int32) (bestFirst : Int32) (bestSecond : Int32) (v : (Nat → Int32)) (spare : (Nat → Int32)) (past : (Nat → Int32)) (kept : (Nat → Int32)) (isKept : (Nat → Int32)) (text : (Nat → Int32)) (paper : (Nat → Int32)) (left : (Nat → Int32)) (top : (Nat → Int32)) (wide : (Nat → Int32)) (high : (Nat → Int32)) (original : (Nat → Int32)) (turn : (Nat → Int32)) (boxX : (Nat → Int32)) (boxY : (Nat → Int32)) (boxW : (Nat → Int32)) (boxH : (Nat → Int32)) (freeAtX : (Nat → Int32)) (freeAtY : (Nat → Int32)) (freeW : (Nat → Int32)) (freeH : (Nat → Int32)) (begins : (Nat → Int32)) (ends : (Nat → Int32)) (tried : (Nat → Int32)) (aside : (Nat → Int32)) (u : Int32 × Int32) (h : f_X11_faultPosition length text = some u) : b_Ct l yX11_faultPosition cX11_faultPosition 2 (some .int) 2 48 D g [.ref (a o)] [k_Model g a o pasts length printed told state backX backY boxes frees bestFree bestTurned bestFirst bestSecond v spare past kept isKept text paper left top wide high original turn boxX boxY boxW boxH freeAtX freeAtY freeW freeH begins ends tried aside] [k_Model g a o pasts length printed u.2 state backX backY boxes frees bestFree bestTurned bestFirst bestSecond v spare past kept isKept text paper left top wide high original turn boxX boxY boxW boxH freeAtX freeAtY freeW freeH begins ends tried aside] (some (.int u.1)) := by
  refine b_start RX11 (by decide) rfl (Nat.le_of_ble_eq_true rfl) rfl ?_
  intro p e s m args below meth c A ls Q hQ hx hb hr hlk hml hown hT hK hA hw hl
  have hl : lv_has ls 2 [(0, .ref (a o))] := hl
  unfold f_X11_faultPosition at h
  refine lv_aload_n hx hb dX11_faultPosition_0 rfl (lv_at hl 0 rfl) ?_
  obtain ⟨r1, er1, h⟩ := g_cl_some h
  refine b_callV hx hb hml hown hT hK hA hw mk_X11_110 (c_X11_faultOf l D g a o pasts length printed told state backX backY boxes frees bestFree bestTurned bestFirst bestSecond v spare past kept isKept text paper left top wide high original turn boxX boxY boxW boxH freeAtX freeAtY freeW freeH begins ends tried aside r1 er1) [0] [] rfl (by decide) 0 0 rfl rfl rfl rfl hl.1 [] rfl (Nat.le_of_ble_eq_true rfl) ⟨Nat.le_of_ble_eq_true rfl, Nat.le_of_ble_eq_true rfl⟩ ⟨Nat.zero_le _, Nat.zero_le _⟩ dX11_faultPosition_1 (wb' := [k_Model g a o pasts length printed r1.2 state backX backY boxes frees bestFree bestTurned bestFirst bestSecond v spare past kept isKept text paper left top wide high original turn boxX boxY boxW boxH freeAtX freeAtY freeW freeH begins ends tried aside]) rfl b_e0 1 rfl (by decide) (st2 := [.int r1.1]) rfl (fun H locs hw => ?_)
  refine lv_istore_n (lv' := [(1, .int r1.1), (0, .ref (a o))]) hx hb dX11_faultPosition_4 rfl hl (by decide) rfl (fun ls hl => ?_)
  refine lv_iload_n hx hb dX11_faultPosition_5 rfl (lv_at hl 0 rfl) ?_
  refine lv_if_ge (tgt := 14) hx hb dX11_faultPosition_6 (by decide) (fun hc6 => ?_) (fun hc6 => ?_)
  · rw [if_pos hc6] at h
    refine lv_iload_n hx hb dX11_faultPosition_14 rfl (lv_at hl 0 rfl) ?_
    obtain rfl := Option.some.inj h
    exact b_iret hQ hx hb hr hlk hw rfl dX11_faultPosition_15
  · rw [if_neg hc6] at h
    refine lv_bipush (v := -4) hx hb dX11_faultPosition_9 (by decide) ?_
    refine lv_goto (tgt := 15) hx hb dX11_faultPosition_11 (by decide) ?_
    obtain rfl := Option.some.inj h
    exact b_iret hQ hx hb hr hlk hw rfl dX11_faultPosition_15
set_option maxRecDepth 100000 in
set_option maxHeartbeats 4000000 in
theorem c_X11_adds (l : Launch) (D : va_G) (g : Nat → ClassId) (a : Nat → Nat) (o : Nat) (pasts : Int32) (length : Int32) (printed : Int32) (told : Int32) (state : Int64) (backX : Int32) (backY : Int32) (boxes : Int32) (frees : Int32) (bestFree : Int32) (bestTurned : Int32) (bestFirst : Int32) (bestSecond : Int32) (v : (Nat → Int32)) (spare : (Nat → Int32)) (past : (Nat → Int32)) (kept : (Nat → Int32)) (isKept : (Nat → Int32)) (text : (Nat → Int32)) (paper : (Nat → Int32)) (left : (Nat → Int32)) (top : (Nat → Int32)) (wide : (Nat → Int32)) (high : (Nat → Int32)) (original : (Nat → Int32)) (turn : (Nat → Int32)) (boxX : (Nat → Int32)) (boxY : (Nat → Int32)) (boxW : (Nat → Int32)) (boxH : (Nat → Int32)) (freeAtX : (Nat → Int32)) (freeAtY : (Nat → Int32)) (freeW : (Nat → Int32)) (freeH : (Nat → Int32)) (begins : (Nat → Int32)) (ends : (Nat → Int32)) (tried : (Nat → Int32)) (aside : (Nat → Int32)) (i1 : Int32) (i2 : Int32) (u : (Nat → Int32)) (h : f_X11_adds v i1 i2 = some u) : b_Ct l yX11_adds cX11_adds 5 none 1 21 D g [.ref (a o), .int i1, .int i2] [k_Model g a o pasts length printed told state backX backY boxes frees bestFree bestTurned bestFirst bestSecond v spare past kept isKept text paper left top wide high original turn boxX boxY boxW boxH freeAtX freeAtY freeW freeH begins ends tried aside] [k_Model g a o pasts length printed told state backX backY boxes frees bestFree bestTurned bestFirst bestSecond u spare past kept isKept text paper left top wide high original turn boxX boxY boxW boxH freeAtX freeAtY freeW freeH begins ends tried aside] none := by
  refine b_start RX11 (by decide) rfl (Nat.le_of_ble_eq_true rfl) rfl ?_
  intro p e s m args below meth c A ls Q hQ hx hb hr hlk hml hown hT hK hA hw hl
  have hl : lv_has ls 5 [(0, .ref (a o)), (1, .int i1), (2, .int i2)] := hl
  unfold f_X11_adds at h
  refine lv_aload_n hx hb dX11_adds_0 rfl (lv_at hl 0 rfl) ?_
  refine b_get hx hb hT hK hown fl_X11_7 hw 0 0 rfl rfl (v := .ref (a (o+1))) rfl dX11_adds_1 ?_
  refine lv_iconst (v := 0) hx hb dX11_adds_4 (by decide) ?_
  obtain ⟨x1, ex1, hix1, h⟩ := g_rd_some h
  refine b_iald hx hb hK hw 0 1 rfl (f := v) rfl hix1 ex1 dX11_adds_5 ?_
  refine lv_istore_n (lv' := [(3, .int x1), (0, .ref (a o)), (1, .int i1), (2, .int i2)]) hx hb dX11_adds_6 rfl hl (by decide) rfl (fun ls hl => ?_)
  refine lv_aload_n hx hb dX11_adds_7 rfl (lv_at hl 1 rfl) ?_
  refine b_get hx hb hT hK hown fl_X11_7 hw 0 0 rfl rfl (v := .ref (a (o+1))) rfl dX11_adds_8 ?_
  refine lv_iconst (v := 0) hx hb dX11_adds_11 (by decide) ?_
  refine lv_dup2_11 hx hb dX11_adds_12 rfl rfl ?_
  obtain ⟨x2, ex2, hix2, h⟩ := g_rd_some h
  refine b_iald hx hb hK hw 0 1 rfl (f := v) rfl hix2 ex2 dX11_adds_13 ?_
  refine lv_iconst (v := 1) hx hb dX11_adds_14 (by decide) ?_
  refine lv_iadd hx hb dX11_adds_15 ?_
  obtain ⟨x3, ex3, h⟩ := g_bd_nm h
  refine g_topi ex3 ?_
  obtain ⟨f4, ef4, hif4, h⟩ := g_wr_some h
  refine b_iast hx hb hK hw 0 1 rfl (f := v) rfl hif4 ef4 rfl (wb' := [k_Model g a o pasts length printed told state backX backY boxes frees bestFree bestTurned bestFirst bestSecond f4 spare past kept isKept text paper left top wide high original turn boxX boxY boxW boxH freeAtX freeAtY freeW freeH begins ends tried aside]) rfl dX11_adds_16 (fun H locs hw => ?_)
  refine lv_aload_n hx hb dX11_adds_17 rfl (lv_at hl 1 rfl) ?_
  refine b_get hx hb hT hK hown fl_X11_7 hw 0 0 rfl rfl (v := .ref (a (o+1))) rfl dX11_adds_18 ?_
  refine lv_iload_n hx hb dX11_adds_21 rfl (lv_at hl 0 rfl) ?_
  refine lv_iconst (v := 0) hx hb dX11_adds_22 (by decide) ?_
  refine b_callS hx hb hml hown hT hK hA hw mk_X11_94 (c_X11_at l D g x1 (0 : Int32)) [] [0] rfl (by decide) rfl hl.1 [.ref (a (o+1))] rfl (Nat.le_of_ble_eq_true rfl) ⟨Nat.le_of_ble_eq_true rfl, Nat.le_of_ble_eq_true rfl⟩ ⟨Nat.zero_le _, Nat.zero_le _⟩ dX11_adds_23 (wb' := [k_Model g a o pasts length printed told state backX backY boxes frees bestFree bestTurned bestFirst bestSecond f4 spare past kept isKept text paper left top wide high original turn boxX boxY boxW boxH freeAtX freeAtY freeW freeH begins ends tried aside]) rfl (b_e1 rfl b_e0) 1 rfl (by decide) (st2 := [.int (f_X11_at x1 (0 : Int32)), .ref (a (o+1))]) rfl (fun H locs hw => ?_)
  refine lv_iload_n hx hb dX11_adds_26 rfl (lv_at hl 2 rfl) ?_
  obtain ⟨f5, ef5, hif5, h⟩ := g_wr_some h
  refine b_iast hx hb hK hw 0 1 rfl (f := f4) rfl hif5 ef5 rfl (wb' := [k_Model g a o pasts length printed told state backX backY boxes frees bestFree bestTurned bestFirst bestSecond f5 spare past kept isKept text paper left top wide high original turn boxX boxY boxW boxH freeAtX freeAtY freeW freeH begins ends tried aside]) rfl dX11_adds_27 (fun H locs hw => ?_)
  refine lv_aload_n hx hb dX11_adds_28 rfl (lv_at hl 1 rfl) ?_
  refine b_get hx hb hT hK hown fl_X11_7 hw 0 0 rfl rfl (v := .ref (a (o+1))) rfl dX11_adds_29 ?_
  refine lv_iload_n hx hb dX11_adds_32 rfl (lv_at hl 0 rfl) ?_
  refine lv_iconst (v := 1) hx hb dX11_adds_33 (by decide) ?_
  refine b_callS hx hb hml hown hT hK hA hw mk_X11_94 (c_X11_at l D g x1 (1 : Int32)) [] [0] rfl (by decide) rfl hl.1 [.ref (a (o+1))] rfl (Nat.le_of_ble_eq_true rfl) ⟨Nat.le_of_ble_eq_true rfl, Nat.le_of_ble_eq_true rfl⟩ ⟨Nat.zero_le _, Nat.zero_le _⟩ dX11_adds_34 (wb' := [k_Model g a o pasts length printed told state backX backY boxes frees bestFree bestTurned bestFirst bestSecond f5 spare past kept isKept text paper left top wide high original turn boxX boxY boxW boxH freeAtX freeAtY freeW freeH begins ends tried aside]) rfl (b_e1 rfl b_e0) 1 rfl (by decide) (st2 := [.int (f_X11_at x1 (1 : Int32)), .ref (a (o+1))]) rfl (fun H locs hw => ?_)
  refine lv_iload_n hx hb dX11_adds_37 rfl (lv_at hl 3 rfl) ?_
  obtain ⟨f6, ef6, hif6, h⟩ := g_wr_some h
  refine b_iast hx hb hK hw 0 1 rfl (f := f5) rfl hif6 ef6 rfl (wb' := [k_Model g a o pasts length printed told state backX backY boxes frees bestFree bestTurned bestFirst bestSecond f6 spare past kept isKept text paper left top wide high original turn boxX boxY boxW boxH freeAtX freeAtY freeW freeH begins ends tried aside]) rfl dX11_adds_38 (fun H locs hw => ?_)
  refine lv_aload_n hx hb dX11_adds_39 rfl (lv_at hl 1 rfl) ?_
  refine b_get hx hb hT hK hown fl_X11_7 hw 0 0 rfl rfl (v := .ref (a (o+1))) rfl dX11_adds_40 ?_
  refine lv_iload_n hx hb dX11_adds_43 rfl (lv_at hl 0 rfl) ?_
  refine lv_iconst (v := 2) hx hb dX11_adds_44 (by decide) ?_
  refine b_callS hx hb hml hown hT hK hA hw mk_X11_94 (c_X11_at l D g x1 (2 : Int32)) [] [0] rfl (by decide) rfl hl.1 [.ref (a (o+1))] rfl (Nat.le_of_ble_eq_true rfl) ⟨Nat.le_of_ble_eq_true rfl, Nat.le_of_ble_eq_true rfl⟩ ⟨Nat.zero_le _, Nat.zero_le _⟩ dX11_adds_45 (wb' := [k_Model g a o pasts length printed told state backX backY boxes frees bestFree bestTurned bestFirst bestSecond f6 spare past kept isKept text paper left top wide high original turn boxX boxY boxW boxH freeAtX freeAtY freeW freeH begins ends tried aside]) rfl (b_e1 rfl b_e0) 1 rfl (by decide) (st2 := [.int (f_X11_at x1 (2 : Int32)), .ref (a (o+1))]) rfl (fun H locs hw => ?_)
  refine lv_iconst (v := 0) hx hb dX11_adds_48 (by decide) ?_
  obtain ⟨f7, ef7, hif7, h⟩ := g_wr_some h
  refine b_iast hx hb hK hw 0 1 rfl (f := f6) rfl hif7 ef7 rfl (wb' := [k_Model g a o pasts length printed told state backX backY boxes frees bestFree bestTurned bestFirst bestSecond f7 spare past kept isKept text paper left top wide high original turn boxX boxY boxW boxH freeAtX freeAtY freeW freeH begins ends tried aside]) rfl dX11_adds_49 (fun H locs hw => ?_)
  refine lv_aload_n hx hb dX11_adds_50 rfl (lv_at hl 1 rfl) ?_
  refine b_get hx hb hT hK hown fl_X11_7 hw 0 0 rfl rfl (v := .ref (a (o+1))) rfl dX11_adds_51 ?_
  refine lv_iload_n hx hb dX11_adds_54 rfl (lv_at hl 0 rfl) ?_
  refine lv_iconst (v := 3) hx hb dX11_adds_55 (by decide) ?_
  refine b_callS hx hb hml hown hT hK hA hw mk_X11_94 (c_X11_at l D g x1 (3 : Int32)) [] [0] rfl (by decide) rfl hl.1 [.ref (a (o+1))] rfl (Nat.le_of_ble_eq_true rfl) ⟨Nat.le_of_ble_eq_true rfl, Nat.le_of_ble_eq_true rfl⟩ ⟨Nat.zero_le _, Nat.zero_le _⟩ dX11_adds_56 (wb' := [k_Model g a o pasts length printed told state backX backY boxes frees bestFree bestTurned bestFirst bestSecond f7 spare past kept isKept text paper left top wide high original turn boxX boxY boxW boxH freeAtX freeAtY freeW freeH begins ends tried aside]) rfl (b_e1 rfl b_e0) 1 rfl (by decide) (st2 := [.int (f_X11_at x1 (3 : Int32)), .ref (a (o+1))]) rfl (fun H locs hw => ?_)
  refine lv_iconst (v := -1) hx hb dX11_adds_59 (by decide) ?_
  obtain ⟨f8, ef8, hif8, h⟩ := g_wr_some h
  refine b_iast hx hb hK hw 0 1 rfl (f := f7) rfl hif8 ef8 rfl (wb' := [k_Model g a o pasts length printed told state backX backY boxes frees bestFree bestTurned bestFirst bestSecond f8 spare past kept isKept text paper left top wide high original turn boxX boxY boxW boxH freeAtX freeAtY freeW freeH begins ends tried aside]) rfl dX11_adds_60 (fun H locs hw => ?_)
  refine lv_aload_n hx hb dX11_adds_61 rfl (lv_at hl 1 rfl) ?_
  refine b_get hx hb hT hK hown fl_X11_7 hw 0 0 rfl rfl (v := .ref (a (o+1))) rfl dX11_adds_62 ?_
  refine lv_iload_n hx hb dX11_adds_65 rfl (lv_at hl 0 rfl) ?_
  refine lv_iconst (v := 4) hx hb dX11_adds_66 (by decide) ?_
  refine b_callS hx hb hml hown hT hK hA hw mk_X11_94 (c_X11_at l D g x1 (4 : Int32)) [] [0] rfl (by decide) rfl hl.1 [.ref (a (o+1))] rfl (Nat.le_of_ble_eq_true rfl) ⟨Nat.le_of_ble_eq_true rfl, Nat.le_of_ble_eq_true rfl⟩ ⟨Nat.zero_le _, Nat.zero_le _⟩ dX11_adds_67 (wb' := [k_Model g a o pasts length printed told state backX backY boxes frees bestFree bestTurned bestFirst bestSecond f8 spare past kept isKept text paper left top wide high original turn boxX boxY boxW boxH freeAtX freeAtY freeW freeH begins ends tried aside]) rfl (b_e1 rfl b_e0) 1 rfl (by decide) (st2 := [.int (f_X11_at x1 (4 : Int32)), .ref (a (o+1))]) rfl (fun H locs hw => ?_)
  refine lv_iconst (v := 0) hx hb dX11_adds_70 (by decide) ?_
  obtain ⟨f9, ef9, hif9, h⟩ := g_wr_some h
  refine b_iast hx hb hK hw 0 1 rfl (f := f8) rfl hif9 ef9 rfl (wb' := [k_Model g a o pasts length printed told state backX backY boxes frees bestFree bestTurned bestFirst bestSecond f9 spare past kept isKept text paper left top wide high original turn boxX boxY boxW boxH freeAtX freeAtY freeW freeH begins ends tried aside]) rfl dX11_adds_71 (fun H locs hw => ?_)
  refine lv_aload_n hx hb dX11_adds_72 rfl (lv_at hl 1 rfl) ?_
  refine b_get hx hb hT hK hown fl_X11_7 hw 0 0 rfl rfl (v := .ref (a (o+1))) rfl dX11_adds_73 ?_
  refine lv_iload_n hx hb dX11_adds_76 rfl (lv_at hl 0 rfl) ?_
  refine lv_iconst (v := 5) hx hb dX11_adds_77 (by decide) ?_
  refine b_callS hx hb hml hown hT hK hA hw mk_X11_94 (c_X11_at l D g x1 (5 : Int32)) [] [0] rfl (by decide) rfl hl.1 [.ref (a (o+1))] rfl (Nat.le_of_ble_eq_true rfl) ⟨Nat.le_of_ble_eq_true rfl, Nat.le_of_ble_eq_true rfl⟩ ⟨Nat.zero_le _, Nat.zero_le _⟩ dX11_adds_78 (wb' := [k_Model g a o pasts length printed told state backX backY boxes frees bestFree bestTurned bestFirst bestSecond f9 spare past kept isKept text paper left top wide high original turn boxX boxY boxW boxH freeAtX freeAtY freeW freeH begins ends tried aside]) rfl (b_e1 rfl b_e0) 1 rfl (by decide) (st2 := [.int (f_X11_at x1 (5 : Int32)), .ref (a (o+1))]) rfl (fun H locs hw => ?_)
  refine lv_iconst (v := 0) hx hb dX11_adds_81 (by decide) ?_
  obtain ⟨f10, ef10, hif10, h⟩ := g_wr_some h
  refine b_iast hx hb hK hw 0 1 rfl (f := f9) rfl hif10 ef10 rfl (wb' := [k_Model g a o pasts length printed told state backX backY boxes frees bestFree bestTurned bestFirst bestSecond f10 spare past kept isKept text paper left top wide high original turn boxX boxY boxW boxH freeAtX freeAtY freeW freeH begins ends tried aside]) rfl dX11_adds_82 (fun H locs hw => ?_)
  refine lv_aload_n hx hb dX11_adds_83 rfl (lv_at hl 1 rfl) ?_
  refine b_get hx hb hT hK hown fl_X11_7 hw 0 0 rfl rfl (v := .ref (a (o+1))) rfl dX11_adds_84 ?_
  refine lv_iload_n hx hb dX11_adds_87 rfl (lv_at hl 0 rfl) ?_
  refine lv_bipush (v := 6) hx hb dX11_adds_88 (by decide) ?_
  refine b_callS hx hb hml hown hT hK hA hw mk_X11_94 (c_X11_at l D g x1 (6 : Int32)) [] [0] rfl (by decide) rfl hl.1 [.ref (a (o+1))] rfl (Nat.le_of_ble_eq_true rfl) ⟨Nat.le_of_ble_eq_true rfl, Nat.le_of_ble_eq_true rfl⟩ ⟨Nat.zero_le _, Nat.zero_le _⟩ dX11_adds_90 (wb' := [k_Model g a o pasts length printed told state backX backY boxes frees bestFree bestTurned bestFirst bestSecond f10 spare past kept isKept text paper left top wide high original turn boxX boxY boxW boxH freeAtX freeAtY freeW freeH begins ends tried aside]) rfl (b_e1 rfl b_e0) 1 rfl (by decide) (st2 := [.int (f_X11_at x1 (6 : Int32)), .ref (a (o+1))]) rfl (fun H locs hw => ?_)
  refine lv_iconst (v := 0) hx hb dX11_adds_93 (by decide) ?_
  obtain ⟨f11, ef11, hif11, h⟩ := g_wr_some h
  refine b_iast hx hb hK hw 0 1 rfl (f := f10) rfl hif11 ef11 rfl (wb' := [k_Model g a o pasts length printed told state backX backY boxes frees bestFree bestTurned bestFirst bestSecond f11 spare past kept isKept text paper left top wide high original turn boxX boxY boxW boxH freeAtX freeAtY freeW freeH begins ends tried aside]) rfl dX11_adds_94 (fun H locs hw => ?_)
  refine lv_iconst (v := 0) hx hb dX11_adds_95 (by decide) ?_
  refine lv_istore (lv' := [(4, .int (0 : Int32)), (3, .int x1), (0, .ref (a o)), (1, .int i1), (2, .int i2)]) hx hb dX11_adds_96 hl (by decide) rfl (fun ls hl => ?_)
  have hL98 : ∀ (n : Nat) (x12 : Int32) (f13 : Nat → Int32) (H : Heap) (locs : List Loc) (ls : Array Slot), b_Wd D A s.heap H locs [k_Model g a o pasts length printed told state backX backY boxes frees bestFree bestTurned bestFirst bestSecond f13 spare past kept isKept text paper left top wide high original turn boxX boxY boxW boxH freeAtX freeAtY freeW freeH begins ends tried aside] → lv_has ls 5 [(0, .ref (a o)), (3, .int x1), (4, .int x12)] → f_X11_adds_L98 x1 n x12 f13 = some u → W p l e (g_rm 1 21) s m args below meth c H locs 0 0 Q (F0 m 98 ls []) := by
    intro n
    induction n with
    | zero =>
      intro x12 f13 H locs ls hw hl h
      cases (show none = some u from h)
    | succ n ih98 =>
      intro x12 f13 H locs ls hw hl h
      rw [f_X11_adds_L98] at h
      refine lv_iload hx hb dX11_adds_98 (lv_at hl 2 rfl) ?_
      refine lv_bipush (v := 64) hx hb dX11_adds_100 (by decide) ?_
      refine lv_icmp_ge (tgt := 126) hx hb dX11_adds_102 (by decide) (fun hc102 => ?_) (fun hc102 => ?_)
      · rw [if_pos hc102] at h
        obtain rfl := Option.some.inj h
        exact b_vret hQ hx hb hr hlk hw rfl dX11_adds_126
      · rw [if_neg hc102] at h
        refine lv_aload_n hx hb dX11_adds_105 rfl (lv_at hl 0 rfl) ?_
        refine b_get hx hb hT hK hown fl_X11_7 hw 0 0 rfl rfl (v := .ref (a (o+1))) rfl dX11_adds_106 ?_
        refine lv_iload_n hx hb dX11_adds_109 rfl (lv_at hl 1 rfl) ?_
        refine lv_bipush (v := 8) hx hb dX11_adds_110 (by decide) ?_
        refine lv_iload hx hb dX11_adds_112 (lv_at hl 2 rfl) ?_
        refine lv_iadd hx hb dX11_adds_114 ?_
        refine b_callS hx hb hml hown hT hK hA hw mk_X11_94 (c_X11_at l D g x1 ((8 : Int32) + x12)) [] [0] rfl (by decide) rfl hl.1 [.ref (a (o+1))] rfl (Nat.le_of_ble_eq_true rfl) ⟨Nat.le_of_ble_eq_true rfl, Nat.le_of_ble_eq_true rfl⟩ ⟨Nat.zero_le _, Nat.zero_le _⟩ dX11_adds_115 (wb' := [k_Model g a o pasts length printed told state backX backY boxes frees bestFree bestTurned bestFirst bestSecond f13 spare past kept isKept text paper left top wide high original turn boxX boxY boxW boxH freeAtX freeAtY freeW freeH begins ends tried aside]) rfl (b_e1 rfl b_e0) 1 rfl (by decide) (st2 := [.int (f_X11_at x1 ((8 : Int32) + x12)), .ref (a (o+1))]) rfl (fun H locs hw => ?_)
        refine lv_iconst (v := 0) hx hb dX11_adds_118 (by decide) ?_
        obtain ⟨f14, ef14, hif14, h⟩ := g_wr_some h
        refine b_iast hx hb hK hw 0 1 rfl (f := f13) rfl hif14 ef14 rfl (wb' := [k_Model g a o pasts length printed told state backX backY boxes frees bestFree bestTurned bestFirst bestSecond f14 spare past kept isKept text paper left top wide high original turn boxX boxY boxW boxH freeAtX freeAtY freeW freeH begins ends tried aside]) rfl dX11_adds_119 (fun H locs hw => ?_)
        obtain ⟨x15, ex15, h⟩ := g_bd_nm h
        refine lv_iinc (v := x15) (lv' := [(4, .int x15), (0, .ref (a o)), (3, .int x1)]) hx hb dX11_adds_120 hl (k := 2) rfl (by rw [ex15]; rfl) (by decide) rfl (fun ls hl => ?_)
        refine lv_goto (tgt := 98) hx hb dX11_adds_123 (by decide) ?_
        exact ih98 x15 f14 _ _ _ hw (lv_sub hl [1, 2, 0] rfl) h
  exact hL98 g_fuel (0 : Int32) f11 _ _ _ hw (lv_sub hl [2, 1, 0] rfl) h
