set_option maxRecDepth 100000 in
set_option maxHeartbeats 4000000 in
theorem c_X11_isFirst (l : Launch) (D : va_G) (g : Nat → ClassId) (a : Nat → Nat) (o : Nat) (pasts : Int32) (length : Int32) (printed : Int32) (told : Int32) (state : Int64) (backX : Int32) (backY : Int32) (boxes : Int32) (frees : Int32) (bestFree : Int32) (bestTurned : Int32) (bestFirst : Int32) (bestSecond : Int32) (v : (Nat → Int32)) (spare : (Nat → Int32)) (past : (Nat → Int32)) (kept : (Nat → Int32)) (isKept : (Nat → Int32)) (text : (Nat → Int32)) (paper : (Nat → Int32)) (left : (Nat → Int32)) (top : (Nat → Int32)) (wide : (Nat → Int32)) (high : (Nat → Int32)) (original : (Nat → Int32)) (turn : (Nat → Int32)) (boxX : (Nat → Int32)) (boxY : (Nat → Int32)) (boxW : (Nat → Int32)) (boxH : (Nat → Int32)) (freeAtX : (Nat → Int32)) (freeAtY : (Nat → Int32)) (freeW : (Nat → Int32)) (freeH : (Nat → Int32)) (begins : (Nat → Int32)) (ends : (Nat → Int32)) (tried : (Nat → Int32)) (aside : (Nat → Int32)) (i1 : Int32) (i2 : Int32) (u : Int32) (h : f_X11_isFirst v wide high i1 i2 = some u) : b_Ct l yX11_isFirst cX11_isFirst 7 (some .boolean) 0 0 D g [.ref (a o), .int i1, .int i2] [k_Model g a o pasts length printed told state backX backY boxes frees bestFree bestTurned bestFirst bestSecond v spare past kept isKept text paper left top wide high original turn boxX boxY boxW boxH freeAtX freeAtY freeW freeH begins ends tried aside] [k_Model g a o pasts length printed told state backX backY boxes frees bestFree bestTurned bestFirst bestSecond v spare past kept isKept text paper left top wide high original turn boxX boxY boxW boxH freeAtX freeAtY freeW freeH begins ends tried aside] (some (.int u)) := by
  refine b_start RX11 (by decide) rfl (Nat.le_of_ble_eq_true rfl) rfl ?_
  intro p e s m args below meth c A ls Q hQ hx hb hr hlk hml hown hT hK hA hw hl
  have hl : lv_has ls 7 [(0, .ref (a o)), (1, .int i1), (2, .int i2)] := hl
  unfold f_X11_isFirst at h
  refine lv_iconst (v := 0) hx hb dX11_isFirst_0 (by decide) ?_
  refine lv_istore_n (lv' := [(3, .int (0 : Int32)), (0, .ref (a o)), (1, .int i1), (2, .int i2)]) hx hb dX11_isFirst_1 rfl hl (by decide) rfl (fun ls hl => ?_)
  refine lv_iconst (v := 0) hx hb dX11_isFirst_2 (by decide) ?_
  refine lv_istore (lv' := [(4, .int (0 : Int32)), (3, .int (0 : Int32)), (0, .ref (a o)), (1, .int i1), (2, .int i2)]) hx hb dX11_isFirst_3 hl (by decide) rfl (fun ls hl => ?_)
  refine lv_aload_n hx hb dX11_isFirst_5 rfl (lv_at hl 2 rfl) ?_
  refine b_get hx hb hT hK hown fl_X11_7 hw 0 0 rfl rfl (v := .ref (a (o+1))) rfl dX11_isFirst_6 ?_
  refine lv_bipush (v := 11) hx hb dX11_isFirst_9 (by decide) ?_
  obtain ⟨x1, ex1, hix1, h⟩ := g_rd_some h
  refine b_iald hx hb hK hw 0 1 rfl (f := v) rfl hix1 ex1 dX11_isFirst_11 ?_
  refine lv_iconst (v := 1) hx hb dX11_isFirst_12 (by decide) ?_
  obtain ⟨j202_3, ej202_3, h⟩ := g_jn_nm h
  have hj202_3 : ∀ (x2 : Int32) (x3 : Int32) (H : Heap) (locs : List Loc) (ls : Array Slot), b_Wd D A s.heap H locs [k_Model g a o pasts length printed told state backX backY boxes frees bestFree bestTurned bestFirst bestSecond v spare past kept isKept text paper left top wide high original turn boxX boxY boxW boxH freeAtX freeAtY freeW freeH begins ends tried aside] → lv_has ls 7 [(3, .int x2), (4, .int x3)] → j202_3 x2 x3 = some u → W p l e (g_rm 0 0) s m args below meth c H locs 0 0 Q (F0 m 202 ls []) := by
    intro x2 x3 H locs ls hw hl h
    subst ej202_3
    dsimp only at h
    refine lv_iload_n hx hb dX11_isFirst_202 rfl (lv_at hl 0 rfl) ?_
    refine lv_if_gt (tgt := 215) hx hb dX11_isFirst_203 (by decide) (fun hc203 => ?_) (fun hc203 => ?_)
    · rw [if_pos hc203] at h
      refine lv_iconst (v := 1) hx hb dX11_isFirst_215 (by decide) ?_
      refine lv_goto (tgt := 220) hx hb dX11_isFirst_216 (by decide) ?_
      obtain rfl := Option.some.inj h
      exact b_zret hQ hx hb hr hlk (Or.inr rfl) hw rfl dX11_isFirst_220
    · rw [if_neg hc203] at h
      refine lv_iload_n hx hb dX11_isFirst_206 rfl (lv_at hl 0 rfl) ?_
      refine lv_if_ne (tgt := 219) hx hb dX11_isFirst_207 (by decide) (fun hc207 => ?_) (fun hc207 => ?_)
      · rw [if_neg hc207] at h
        refine lv_iconst (v := 0) hx hb dX11_isFirst_219 (by decide) ?_
        obtain rfl := Option.some.inj h
        exact b_zret hQ hx hb hr hlk (Or.inl rfl) hw rfl dX11_isFirst_220
      · rw [if_pos hc207] at h
        refine lv_iload hx hb dX11_isFirst_210 (lv_at hl 1 rfl) ?_
        refine lv_if_lt (tgt := 219) hx hb dX11_isFirst_212 (by decide) (fun hc212 => ?_) (fun hc212 => ?_)
        · rw [if_pos hc212] at h
          refine lv_iconst (v := 0) hx hb dX11_isFirst_219 (by decide) ?_
          obtain rfl := Option.some.inj h
          exact b_zret hQ hx hb hr hlk (Or.inl rfl) hw rfl dX11_isFirst_220
        · rw [if_neg hc212] at h
          refine lv_iconst (v := 1) hx hb dX11_isFirst_215 (by decide) ?_
          refine lv_goto (tgt := 220) hx hb dX11_isFirst_216 (by decide) ?_
          obtain rfl := Option.some.inj h
          exact b_zret hQ hx hb hr hlk (Or.inr rfl) hw rfl dX11_isFirst_220
  refine lv_icmp_ne (tgt := 47) hx hb dX11_isFirst_13 (by decide) (fun hc13 => ?_) (fun hc13 => ?_)
  · rw [if_neg hc13] at h
    refine lv_aload_n hx hb dX11_isFirst_47 rfl (lv_at hl 2 rfl) ?_
    refine b_get hx hb hT hK hown fl_X11_7 hw 0 0 rfl rfl (v := .ref (a (o+1))) rfl dX11_isFirst_48 ?_
    refine lv_bipush (v := 11) hx hb dX11_isFirst_51 (by decide) ?_
    obtain ⟨x10, ex10, hix10, h⟩ := g_rd_some h
    refine b_iald hx hb hK hw 0 1 rfl (f := v) rfl hix10 ex10 dX11_isFirst_53 ?_
    refine lv_iconst (v := 2) hx hb dX11_isFirst_54 (by decide) ?_
    refine lv_icmp_ne (tgt := 162) hx hb dX11_isFirst_55 (by decide) (fun hc55 => ?_) (fun hc55 => ?_)
    · rw [if_neg hc55] at h
      refine lv_aload_n hx hb dX11_isFirst_162 rfl (lv_at hl 2 rfl) ?_
      refine b_get hx hb hT hK hown fl_X11_7 hw 0 0 rfl rfl (v := .ref (a (o+1))) rfl dX11_isFirst_163 ?_
      refine lv_bipush (v := 11) hx hb dX11_isFirst_166 (by decide) ?_
      obtain ⟨x29, ex29, hix29, h⟩ := g_rd_some h
      refine b_iald hx hb hK hw 0 1 rfl (f := v) rfl hix29 ex29 dX11_isFirst_168 ?_
      refine lv_iconst (v := 3) hx hb dX11_isFirst_169 (by decide) ?_
      refine lv_icmp_ne (tgt := 202) hx hb dX11_isFirst_170 (by decide) (fun hc170 => ?_) (fun hc170 => ?_)
      · rw [if_neg hc170] at h
        exact hj202_3 (0 : Int32) (0 : Int32) _ _ _ hw (lv_sub hl [1, 0] rfl) h
      · rw [if_pos hc170] at h
        refine lv_aload_n hx hb dX11_isFirst_173 rfl (lv_at hl 2 rfl) ?_
        refine b_get hx hb hT hK hown fl_X11_41 hw 0 0 rfl rfl (v := .ref (a (o+11))) rfl dX11_isFirst_174 ?_
        refine lv_iload_n hx hb dX11_isFirst_177 rfl (lv_at hl 3 rfl) ?_
        obtain ⟨x30, ex30, hix30, h⟩ := g_rd_some h
        refine b_iald hx hb hK hw 0 11 rfl (f := high) rfl hix30 ex30 dX11_isFirst_178 ?_
        refine lv_aload_n hx hb dX11_isFirst_179 rfl (lv_at hl 2 rfl) ?_
        refine b_get hx hb hT hK hown fl_X11_41 hw 0 0 rfl rfl (v := .ref (a (o+11))) rfl dX11_isFirst_180 ?_
        refine lv_iload_n hx hb dX11_isFirst_183 rfl (lv_at hl 4 rfl) ?_
        obtain ⟨x31, ex31, hix31, h⟩ := g_rd_some h
        refine b_iald hx hb hK hw 0 11 rfl (f := high) rfl hix31 ex31 dX11_isFirst_184 ?_
        refine lv_isub hx hb dX11_isFirst_185 ?_
        obtain ⟨x32, ex32, h⟩ := g_bd_nm h
        refine g_topi ex32 ?_
        refine lv_istore_n (lv' := [(3, .int x32), (4, .int (0 : Int32)), (0, .ref (a o)), (1, .int i1), (2, .int i2)]) hx hb dX11_isFirst_186 rfl hl (by decide) rfl (fun ls hl => ?_)
        refine lv_aload_n hx hb dX11_isFirst_187 rfl (lv_at hl 2 rfl) ?_
        refine b_get hx hb hT hK hown fl_X11_38 hw 0 0 rfl rfl (v := .ref (a (o+10))) rfl dX11_isFirst_188 ?_
        refine lv_iload_n hx hb dX11_isFirst_191 rfl (lv_at hl 3 rfl) ?_
        obtain ⟨x33, ex33, hix33, h⟩ := g_rd_some h
        refine b_iald hx hb hK hw 0 10 rfl (f := wide) rfl hix33 ex33 dX11_isFirst_192 ?_
        refine lv_aload_n hx hb dX11_isFirst_193 rfl (lv_at hl 2 rfl) ?_
        refine b_get hx hb hT hK hown fl_X11_38 hw 0 0 rfl rfl (v := .ref (a (o+10))) rfl dX11_isFirst_194 ?_
        refine lv_iload_n hx hb dX11_isFirst_197 rfl (lv_at hl 4 rfl) ?_
        obtain ⟨x34, ex34, hix34, h⟩ := g_rd_some h
        refine b_iald hx hb hK hw 0 10 rfl (f := wide) rfl hix34 ex34 dX11_isFirst_198 ?_
        refine lv_isub hx hb dX11_isFirst_199 ?_
        obtain ⟨x35, ex35, h⟩ := g_bd_nm h
        refine g_topi ex35 ?_
        refine lv_istore (lv' := [(4, .int x35), (3, .int x32), (0, .ref (a o)), (1, .int i1), (2, .int i2)]) hx hb dX11_isFirst_200 hl (by decide) rfl (fun ls hl => ?_)
        exact hj202_3 x32 x35 _ _ _ hw (lv_sub hl [1, 0] rfl) h
    · rw [if_pos hc55] at h
      refine lv_aload_n hx hb dX11_isFirst_58 rfl (lv_at hl 2 rfl) ?_
      refine b_get hx hb hT hK hown fl_X11_38 hw 0 0 rfl rfl (v := .ref (a (o+10))) rfl dX11_isFirst_59 ?_
      refine lv_iload_n hx hb dX11_isFirst_62 rfl (lv_at hl 3 rfl) ?_
      obtain ⟨x11, ex11, hix11, h⟩ := g_rd_some h
      refine b_iald hx hb hK hw 0 10 rfl (f := wide) rfl hix11 ex11 dX11_isFirst_63 ?_
      refine lv_aload_n hx hb dX11_isFirst_64 rfl (lv_at hl 2 rfl) ?_
      refine b_get hx hb hT hK hown fl_X11_41 hw 0 0 rfl rfl (v := .ref (a (o+11))) rfl dX11_isFirst_65 ?_
      refine lv_iload_n hx hb dX11_isFirst_68 rfl (lv_at hl 3 rfl) ?_
      obtain ⟨x12, ex12, hix12, h⟩ := g_rd_some h
      refine b_iald hx hb hK hw 0 11 rfl (f := high) rfl hix12 ex12 dX11_isFirst_69 ?_
      obtain ⟨j88_13, ej88_13, h⟩ := g_jn_nm h
      have hj88_13 : ∀ (x13 : Int32) (H : Heap) (locs : List Loc) (ls : Array Slot), b_Wd D A s.heap H locs [k_Model g a o pasts length printed told state backX backY boxes frees bestFree bestTurned bestFirst bestSecond v spare past kept isKept text paper left top wide high original turn boxX boxY boxW boxH freeAtX freeAtY freeW freeH begins ends tried aside] → lv_has ls 7 [(0, .ref (a o)), (1, .int i1), (2, .int i2)] → j88_13 x13 = some u → W p l e (g_rm 0 0) s m args below meth c H locs 0 0 Q (F0 m 88 ls [.int x13]) := by
        intro x13 H locs ls hw hl h
        subst ej88_13
        dsimp only at h
        refine lv_istore (lv' := [(5, .int x13), (0, .ref (a o)), (1, .int i1), (2, .int i2)]) hx hb dX11_isFirst_88 hl (by decide) rfl (fun ls hl => ?_)
        refine lv_aload_n hx hb dX11_isFirst_90 rfl (lv_at hl 1 rfl) ?_
        refine b_get hx hb hT hK hown fl_X11_38 hw 0 0 rfl rfl (v := .ref (a (o+10))) rfl dX11_isFirst_91 ?_
        refine lv_iload_n hx hb dX11_isFirst_94 rfl (lv_at hl 3 rfl) ?_
        obtain ⟨x15, ex15, hix15, h⟩ := g_rd_some h
        refine b_iald hx hb hK hw 0 10 rfl (f := wide) rfl hix15 ex15 dX11_isFirst_95 ?_
        refine lv_aload_n hx hb dX11_isFirst_96 rfl (lv_at hl 1 rfl) ?_
        refine b_get hx hb hT hK hown fl_X11_41 hw 0 0 rfl rfl (v := .ref (a (o+11))) rfl dX11_isFirst_97 ?_
        refine lv_iload_n hx hb dX11_isFirst_100 rfl (lv_at hl 3 rfl) ?_
        obtain ⟨x16, ex16, hix16, h⟩ := g_rd_some h
        refine b_iald hx hb hK hw 0 11 rfl (f := high) rfl hix16 ex16 dX11_isFirst_101 ?_
        obtain ⟨j120_17, ej120_17, h⟩ := g_jn_nm h
        have hj120_17 : ∀ (x17 : Int32) (H : Heap) (locs : List Loc) (ls : Array Slot), b_Wd D A s.heap H locs [k_Model g a o pasts length printed told state backX backY boxes frees bestFree bestTurned bestFirst bestSecond v spare past kept isKept text paper left top wide high original turn boxX boxY boxW boxH freeAtX freeAtY freeW freeH begins ends tried aside] → lv_has ls 7 [(0, .ref (a o)), (1, .int i1), (2, .int i2), (5, .int x13)] → j120_17 x17 = some u → W p l e (g_rm 0 0) s m args below meth c H locs 0 0 Q (F0 m 120 ls [.int x17]) := by
          intro x17 H locs ls hw hl h
          subst ej120_17
          dsimp only at h
          refine lv_istore (lv' := [(6, .int x17), (0, .ref (a o)), (1, .int i1), (2, .int i2), (5, .int x13)]) hx hb dX11_isFirst_120 hl (by decide) rfl (fun ls hl => ?_)
          refine lv_iload hx hb dX11_isFirst_122 (lv_at hl 4 rfl) ?_
          refine lv_iload hx hb dX11_isFirst_124 (lv_at hl 0 rfl) ?_
          refine lv_isub hx hb dX11_isFirst_126 ?_
          obtain ⟨x19, ex19, h⟩ := g_bd_nm h
          refine g_topi ex19 ?_
          refine lv_istore_n (lv' := [(3, .int x19), (6, .int x17), (0, .ref (a o)), (1, .int i1), (2, .int i2), (5, .int x13)]) hx hb dX11_isFirst_127 rfl hl (by decide) rfl (fun ls hl => ?_)
          refine lv_aload_n hx hb dX11_isFirst_128 rfl (lv_at hl 2 rfl) ?_
          refine b_get hx hb hT hK hown fl_X11_38 hw 0 0 rfl rfl (v := .ref (a (o+10))) rfl dX11_isFirst_129 ?_
          refine lv_iload_n hx hb dX11_isFirst_132 rfl (lv_at hl 3 rfl) ?_
          obtain ⟨x20, ex20, hix20, h⟩ := g_rd_some h
          refine b_iald hx hb hK hw 0 10 rfl (f := wide) rfl hix20 ex20 dX11_isFirst_133 ?_
          refine lv_aload_n hx hb dX11_isFirst_134 rfl (lv_at hl 2 rfl) ?_
          refine b_get hx hb hT hK hown fl_X11_41 hw 0 0 rfl rfl (v := .ref (a (o+11))) rfl dX11_isFirst_135 ?_
          refine lv_iload_n hx hb dX11_isFirst_138 rfl (lv_at hl 3 rfl) ?_
          obtain ⟨x21, ex21, hix21, h⟩ := g_rd_some h
          refine b_iald hx hb hK hw 0 11 rfl (f := high) rfl hix21 ex21 dX11_isFirst_139 ?_
          refine lv_iadd hx hb dX11_isFirst_140 ?_
          refine lv_aload_n hx hb dX11_isFirst_141 rfl (lv_at hl 2 rfl) ?_
          refine b_get hx hb hT hK hown fl_X11_38 hw 0 0 rfl rfl (v := .ref (a (o+10))) rfl dX11_isFirst_142 ?_
          refine lv_iload_n hx hb dX11_isFirst_145 rfl (lv_at hl 4 rfl) ?_
          obtain ⟨x22, ex22, hix22, h⟩ := g_rd_some h
          refine b_iald hx hb hK hw 0 10 rfl (f := wide) rfl hix22 ex22 dX11_isFirst_146 ?_
          refine lv_isub hx hb dX11_isFirst_147 ?_
          refine lv_aload_n hx hb dX11_isFirst_148 rfl (lv_at hl 2 rfl) ?_
          refine b_get hx hb hT hK hown fl_X11_41 hw 0 0 rfl rfl (v := .ref (a (o+11))) rfl dX11_isFirst_149 ?_
          refine lv_iload_n hx hb dX11_isFirst_152 rfl (lv_at hl 4 rfl) ?_
          obtain ⟨x23, ex23, hix23, h⟩ := g_rd_some h
          refine b_iald hx hb hK hw 0 11 rfl (f := high) rfl hix23 ex23 dX11_isFirst_153 ?_
          refine lv_isub hx hb dX11_isFirst_154 ?_
          refine lv_iload_n hx hb dX11_isFirst_155 rfl (lv_at hl 0 rfl) ?_
          refine lv_isub hx hb dX11_isFirst_156 ?_
          obtain ⟨x24, ex24, h⟩ := g_bd_nm h
          refine g_topi ex24 ?_
          refine lv_istore (lv' := [(4, .int x24), (3, .int x19), (6, .int x17), (0, .ref (a o)), (1, .int i1), (2, .int i2), (5, .int x13)]) hx hb dX11_isFirst_157 hl (by decide) rfl (fun ls hl => ?_)
          refine lv_goto (tgt := 202) hx hb dX11_isFirst_159 (by decide) ?_
          exact hj202_3 x19 x24 _ _ _ hw (lv_sub hl [1, 0] rfl) h
        refine lv_icmp_le (tgt := 114) hx hb dX11_isFirst_102 (by decide) (fun hc102 => ?_) (fun hc102 => ?_)
        · rw [if_pos hc102] at h
          refine lv_aload_n hx hb dX11_isFirst_114 rfl (lv_at hl 1 rfl) ?_
          refine b_get hx hb hT hK hown fl_X11_41 hw 0 0 rfl rfl (v := .ref (a (o+11))) rfl dX11_isFirst_115 ?_
          refine lv_iload_n hx hb dX11_isFirst_118 rfl (lv_at hl 3 rfl) ?_
          obtain ⟨x25, ex25, hix25, h⟩ := g_rd_some h
          refine b_iald hx hb hK hw 0 11 rfl (f := high) rfl hix25 ex25 dX11_isFirst_119 ?_
          exact hj120_17 x25 _ _ _ hw (lv_sub hl [1, 2, 3, 0] rfl) h
        · rw [if_neg hc102] at h
          refine lv_aload_n hx hb dX11_isFirst_105 rfl (lv_at hl 1 rfl) ?_
          refine b_get hx hb hT hK hown fl_X11_38 hw 0 0 rfl rfl (v := .ref (a (o+10))) rfl dX11_isFirst_106 ?_
          refine lv_iload_n hx hb dX11_isFirst_109 rfl (lv_at hl 3 rfl) ?_
          obtain ⟨x26, ex26, hix26, h⟩ := g_rd_some h
          refine b_iald hx hb hK hw 0 10 rfl (f := wide) rfl hix26 ex26 dX11_isFirst_110 ?_
          refine lv_goto (tgt := 120) hx hb dX11_isFirst_111 (by decide) ?_
          exact hj120_17 x26 _ _ _ hw (lv_sub hl [1, 2, 3, 0] rfl) h
      refine lv_icmp_le (tgt := 82) hx hb dX11_isFirst_70 (by decide) (fun hc70 => ?_) (fun hc70 => ?_)
      · rw [if_pos hc70] at h
        refine lv_aload_n hx hb dX11_isFirst_82 rfl (lv_at hl 2 rfl) ?_
        refine b_get hx hb hT hK hown fl_X11_41 hw 0 0 rfl rfl (v := .ref (a (o+11))) rfl dX11_isFirst_83 ?_
        refine lv_iload_n hx hb dX11_isFirst_86 rfl (lv_at hl 3 rfl) ?_
        obtain ⟨x27, ex27, hix27, h⟩ := g_rd_some h
        refine b_iald hx hb hK hw 0 11 rfl (f := high) rfl hix27 ex27 dX11_isFirst_87 ?_
        exact hj88_13 x27 _ _ _ hw (lv_sub hl [2, 3, 4] rfl) h
      · rw [if_neg hc70] at h
        refine lv_aload_n hx hb dX11_isFirst_73 rfl (lv_at hl 2 rfl) ?_
        refine b_get hx hb hT hK hown fl_X11_38 hw 0 0 rfl rfl (v := .ref (a (o+10))) rfl dX11_isFirst_74 ?_
        refine lv_iload_n hx hb dX11_isFirst_77 rfl (lv_at hl 3 rfl) ?_
        obtain ⟨x28, ex28, hix28, h⟩ := g_rd_some h
        refine b_iald hx hb hK hw 0 10 rfl (f := wide) rfl hix28 ex28 dX11_isFirst_78 ?_
        refine lv_goto (tgt := 88) hx hb dX11_isFirst_79 (by decide) ?_
        exact hj88_13 x28 _ _ _ hw (lv_sub hl [2, 3, 4] rfl) h
  · rw [if_pos hc13] at h
    refine lv_aload_n hx hb dX11_isFirst_16 rfl (lv_at hl 2 rfl) ?_
    refine b_get hx hb hT hK hown fl_X11_38 hw 0 0 rfl rfl (v := .ref (a (o+10))) rfl dX11_isFirst_17 ?_
    refine lv_iload_n hx hb dX11_isFirst_20 rfl (lv_at hl 3 rfl) ?_
    obtain ⟨x5, ex5, hix5, h⟩ := g_rd_some h
    refine b_iald hx hb hK hw 0 10 rfl (f := wide) rfl hix5 ex5 dX11_isFirst_21 ?_
    refine lv_aload_n hx hb dX11_isFirst_22 rfl (lv_at hl 2 rfl) ?_
    refine b_get hx hb hT hK hown fl_X11_41 hw 0 0 rfl rfl (v := .ref (a (o+11))) rfl dX11_isFirst_23 ?_
    refine lv_iload_n hx hb dX11_isFirst_26 rfl (lv_at hl 3 rfl) ?_
    obtain ⟨x6, ex6, hix6, h⟩ := g_rd_some h
    refine b_iald hx hb hK hw 0 11 rfl (f := high) rfl hix6 ex6 dX11_isFirst_27 ?_
    refine lv_imul hx hb dX11_isFirst_28 ?_
    refine lv_aload_n hx hb dX11_isFirst_29 rfl (lv_at hl 2 rfl) ?_
    refine b_get hx hb hT hK hown fl_X11_38 hw 0 0 rfl rfl (v := .ref (a (o+10))) rfl dX11_isFirst_30 ?_
    refine lv_iload_n hx hb dX11_isFirst_33 rfl (lv_at hl 4 rfl) ?_
    obtain ⟨x7, ex7, hix7, h⟩ := g_rd_some h
    refine b_iald hx hb hK hw 0 10 rfl (f := wide) rfl hix7 ex7 dX11_isFirst_34 ?_
    refine lv_aload_n hx hb dX11_isFirst_35 rfl (lv_at hl 2 rfl) ?_
    refine b_get hx hb hT hK hown fl_X11_41 hw 0 0 rfl rfl (v := .ref (a (o+11))) rfl dX11_isFirst_36 ?_
    refine lv_iload_n hx hb dX11_isFirst_39 rfl (lv_at hl 4 rfl) ?_
    obtain ⟨x8, ex8, hix8, h⟩ := g_rd_some h
    refine b_iald hx hb hK hw 0 11 rfl (f := high) rfl hix8 ex8 dX11_isFirst_40 ?_
    refine lv_imul hx hb dX11_isFirst_41 ?_
    refine lv_isub hx hb dX11_isFirst_42 ?_
    obtain ⟨x9, ex9, h⟩ := g_bd_nm h
    refine g_topi ex9 ?_
    refine lv_istore_n (lv' := [(3, .int x9), (4, .int (0 : Int32)), (0, .ref (a o)), (1, .int i1), (2, .int i2)]) hx hb dX11_isFirst_43 rfl hl (by decide) rfl (fun ls hl => ?_)
    refine lv_goto (tgt := 202) hx hb dX11_isFirst_44 (by decide) ?_
    exact hj202_3 x9 (0 : Int32) _ _ _ hw (lv_sub hl [0, 1] rfl) h
set_option maxRecDepth 100000 in
set_option maxHeartbeats 4000000 in
theorem c_X11_packs (l : Launch) (D : va_G) (g : Nat → ClassId) (a : Nat → Nat) (o : Nat) (pasts : Int32) (length : Int32) (printed : Int32) (told : Int32) (state : Int64) (backX : Int32) (backY : Int32) (boxes : Int32) (frees : Int32) (bestFree : Int32) (bestTurned : Int32) (bestFirst : Int32) (bestSecond : Int32) (v : (Nat → Int32)) (spare : (Nat → Int32)) (past : (Nat → Int32)) (kept : (Nat → Int32)) (isKept : (Nat → Int32)) (text : (Nat → Int32)) (paper : (Nat → Int32)) (left : (Nat → Int32)) (top : (Nat → Int32)) (wide : (Nat → Int32)) (high : (Nat → Int32)) (original : (Nat → Int32)) (turn : (Nat → Int32)) (boxX : (Nat → Int32)) (boxY : (Nat → Int32)) (boxW : (Nat → Int32)) (boxH : (Nat → Int32)) (freeAtX : (Nat → Int32)) (freeAtY : (Nat → Int32)) (freeW : (Nat → Int32)) (freeH : (Nat → Int32)) (begins : (Nat → Int32)) (ends : (Nat → Int32)) (tried : (Nat → Int32)) (aside : (Nat → Int32)) (u : Int32 × Int32 × Int32 × Int32 × Int32 × Int32 × Int32 × (Nat → Int32) × (Nat → Int32) × (Nat → Int32) × (Nat → Int32) × (Nat → Int32) × (Nat → Int32) × (Nat → Int32) × (Nat → Int32) × (Nat → Int32) × (Nat → Int32) × (Nat → Int32) × (Nat → Int32)) (h : f_X11_packs boxes frees bestFree bestTurned bestFirst bestSecond v wide high original boxX boxY boxW boxH freeAtX freeAtY freeW freeH begins ends tried = some u) : b_Ct l yX11_packs cX11_packs 5 (some .int) 7 166 D g [.ref (a o)] [k_Model g a o pasts length printed told state backX backY boxes frees bestFree bestTurned bestFirst bestSecond v spare past kept isKept text paper left top wide high original turn boxX boxY boxW boxH freeAtX freeAtY freeW freeH begins ends tried aside] [k_Model g a o pasts length printed told state backX backY u.2.1 u.2.2.1 u.2.2.2.1 u.2.2.2.2.1 u.2.2.2.2.2.1 u.2.2.2.2.2.2.1 u.2.2.2.2.2.2.2.1 spare past kept isKept text paper left top wide high original turn u.2.2.2.2.2.2.2.2.1 u.2.2.2.2.2.2.2.2.2.1 u.2.2.2.2.2.2.2.2.2.2.1 u.2.2.2.2.2.2.2.2.2.2.2.1 u.2.2.2.2.2.2.2.2.2.2.2.2.1 u.2.2.2.2.2.2.2.2.2.2.2.2.2.1 u.2.2.2.2.2.2.2.2.2.2.2.2.2.2.1 u.2.2.2.2.2.2.2.2.2.2.2.2.2.2.2.1 u.2.2.2.2.2.2.2.2.2.2.2.2.2.2.2.2.1 u.2.2.2.2.2.2.2.2.2.2.2.2.2.2.2.2.2.1 u.2.2.2.2.2.2.2.2.2.2.2.2.2.2.2.2.2.2 aside] (some (.int u.1)) := by
  refine b_start RX11 (by decide) rfl (Nat.le_of_ble_eq_true rfl) rfl ?_
  intro p e s m args below meth c A ls Q hQ hx hb hr hlk hml hown hT hK hA hw hl
  have hl : lv_has ls 5 [(0, .ref (a o))] := hl
  unfold f_X11_packs at h
  refine lv_aload_n hx hb dX11_packs_0 rfl (lv_at hl 0 rfl) ?_
  obtain ⟨r1, er1, h⟩ := g_cl_some h
  refine b_callV hx hb hml hown hT hK hA hw mk_X11_101 (c_X11_empties l D g a o pasts length printed told state backX backY boxes frees bestFree bestTurned bestFirst bestSecond v spare past kept isKept text paper left top wide high original turn boxX boxY boxW boxH freeAtX freeAtY freeW freeH begins ends tried aside r1 er1) [0] [] rfl (by decide) 0 0 rfl rfl rfl rfl hl.1 [] rfl (Nat.le_of_ble_eq_true rfl) ⟨Nat.le_of_ble_eq_true rfl, Nat.le_of_ble_eq_true rfl⟩ ⟨Nat.zero_le _, Nat.zero_le _⟩ dX11_packs_1 (wb' := [k_Model g a o pasts length printed told state backX backY boxes frees bestFree bestTurned bestFirst bestSecond r1 spare past kept isKept text paper left top wide high original turn boxX boxY boxW boxH freeAtX freeAtY freeW freeH begins ends tried aside]) rfl b_e0 1 rfl (by decide) (st2 := []) rfl (fun H locs hw => ?_)
  refine lv_iconst (v := 0) hx hb dX11_packs_4 (by decide) ?_
  refine lv_istore_n (lv' := [(1, .int (0 : Int32)), (0, .ref (a o))]) hx hb dX11_packs_5 rfl hl (by decide) rfl (fun ls hl => ?_)
  refine lv_iconst (v := 0) hx hb dX11_packs_6 (by decide) ?_
  refine lv_istore_n (lv' := [(2, .int (0 : Int32)), (1, .int (0 : Int32)), (0, .ref (a o))]) hx hb dX11_packs_7 rfl hl (by decide) rfl (fun ls hl => ?_)
  obtain ⟨k43_2, ek43_2, h⟩ := g_jn_nm h
  have hk43_2 : ∀ (f2 : Nat → Int32) (H : Heap) (locs : List Loc) (ls : Array Slot), b_Wd D A s.heap H locs [k_Model g a o pasts length printed told state backX backY boxes frees bestFree bestTurned bestFirst bestSecond r1 spare past kept isKept text paper left top wide high original turn boxX boxY boxW boxH freeAtX freeAtY freeW freeH begins ends f2 aside] → lv_has ls 5 [(0, .ref (a o)), (1, .int (0 : Int32))] → k43_2 f2 = some u → W p l e (g_rm 7 166) s m args below meth c H locs 0 0 Q (F0 m 43 ls []) := by
    intro f2 H locs ls hw hl h
    subst ek43_2
    dsimp only at h
    refine lv_iconst (v := 1) hx hb dX11_packs_43 (by decide) ?_
    refine lv_istore_n (lv' := [(2, .int (1 : Int32)), (0, .ref (a o)), (1, .int (0 : Int32))]) hx hb dX11_packs_44 rfl hl (by decide) rfl (fun ls hl => ?_)
    have hL45 : ∀ (n : Nat) (x4 : Int32) (x5 : Int32) (x6 : Int32) (x7 : Int32) (x8 : Int32) (x9 : Int32) (x10 : Int32) (x11 : Int32) (f12 : Nat → Int32) (f13 : Nat → Int32) (f14 : Nat → Int32) (f15 : Nat → Int32) (f16 : Nat → Int32) (f17 : Nat → Int32) (f18 : Nat → Int32) (f19 : Nat → Int32) (f20 : Nat → Int32) (f21 : Nat → Int32) (f22 : Nat → Int32) (f23 : Nat → Int32) (H : Heap) (locs : List Loc) (ls : Array Slot), b_Wd D A s.heap H locs [k_Model g a o pasts length printed told state backX backY x6 x7 x8 x9 x10 x11 f12 spare past kept isKept text paper left top wide high original turn f13 f14 f15 f16 f17 f18 f19 f20 f21 f22 f23 aside] → lv_has ls 5 [(0, .ref (a o)), (1, .int x4), (2, .int x5)] → f_X11_packs_L45 wide high n x4 x5 x6 x7 x8 x9 x10 x11 f12 f13 f14 f15 f16 f17 f18 f19 f20 f21 f22 f23 = some u → W p l e (g_rm 7 166) s m args below meth c H locs 0 0 Q (F0 m 45 ls []) := by
      intro n
      induction n with
      | zero =>
        intro x4 x5 x6 x7 x8 x9 x10 x11 f12 f13 f14 f15 f16 f17 f18 f19 f20 f21 f22 f23 H locs ls hw hl h
        cases (show none = some u from h)
      | succ n ih45 =>
        intro x4 x5 x6 x7 x8 x9 x10 x11 f12 f13 f14 f15 f16 f17 f18 f19 f20 f21 f22 f23 H locs ls hw hl h
        rw [f_X11_packs_L45] at h
        refine lv_iload_n hx hb dX11_packs_45 rfl (lv_at hl 2 rfl) ?_
        refine lv_if_eq (tgt := 143) hx hb dX11_packs_46 (by decide) (fun hc46 => ?_) (fun hc46 => ?_)
        · rw [if_pos hc46] at h
          refine lv_iload_n hx hb dX11_packs_143 rfl (lv_at hl 1 rfl) ?_
          obtain rfl := Option.some.inj h
          exact b_iret hQ hx hb hr hlk hw rfl dX11_packs_144
        · rw [if_neg hc46] at h
          refine lv_iconst (v := -1) hx hb dX11_packs_49 (by decide) ?_
          refine lv_istore_n (lv' := [(3, .int (-1 : Int32)), (0, .ref (a o)), (1, .int x4), (2, .int x5)]) hx hb dX11_packs_50 rfl hl (by decide) rfl (fun ls hl => ?_)
          refine lv_aload_n hx hb dX11_packs_51 rfl (lv_at hl 1 rfl) ?_
          refine b_get hx hb hT hK hown fl_X11_7 hw 0 0 rfl rfl (v := .ref (a (o+1))) rfl dX11_packs_52 ?_
          refine lv_iconst (v := 0) hx hb dX11_packs_55 (by decide) ?_
          obtain ⟨x24, ex24, hix24, h⟩ := g_rd_some h
          refine b_iald hx hb hK hw 0 1 rfl (f := f12) rfl hix24 ex24 dX11_packs_56 ?_
          refine lv_iconst (v := 1) hx hb dX11_packs_57 (by decide) ?_
          refine lv_isub hx hb dX11_packs_58 ?_
          obtain ⟨x25, ex25, h⟩ := g_bd_nm h
          refine g_topi ex25 ?_
          refine lv_istore (lv' := [(4, .int x25), (3, .int (-1 : Int32)), (0, .ref (a o)), (1, .int x4), (2, .int x5)]) hx hb dX11_packs_59 hl (by decide) rfl (fun ls hl => ?_)
          obtain ⟨k103_26, ek103_26, h⟩ := g_jn_nm h
          have hk103_26 : ∀ (x26 : Int32) (H : Heap) (locs : List Loc) (ls : Array Slot), b_Wd D A s.heap H locs [k_Model g a o pasts length printed told state backX backY x6 x7 x8 x9 x10 x11 f12 spare past kept isKept text paper left top wide high original turn f13 f14 f15 f16 f17 f18 f19 f20 f21 f22 f23 aside] → lv_has ls 5 [(0, .ref (a o)), (1, .int x4), (3, .int x26)] → k103_26 x26 = some u → W p l e (g_rm 7 166) s m args below meth c H locs 0 0 Q (F0 m 103 ls []) := by
            intro x26 H locs ls hw hl h
            subst ek103_26
            dsimp only at h
            refine lv_iload_n hx hb dX11_packs_103 rfl (lv_at hl 2 rfl) ?_
            obtain ⟨j112_28, ej112_28, h⟩ := g_bd_k h
            have hj112_28 : ∀ (x28 : Int32) (H : Heap) (locs : List Loc) (ls : Array Slot), b_Wd D A s.heap H locs [k_Model g a o pasts length printed told state backX backY x6 x7 x8 x9 x10 x11 f12 spare past kept isKept text paper left top wide high original turn f13 f14 f15 f16 f17 f18 f19 f20 f21 f22 f23 aside] → lv_has ls 5 [(0, .ref (a o)), (1, .int x4), (3, .int x26)] → j112_28 x28 = some u → W p l e (g_rm 7 166) s m args below meth c H locs 0 0 Q (F0 m 112 ls [.int x28]) := by
              intro x28 H locs ls hw hl h
              subst ej112_28
              dsimp only at h
              refine lv_istore_n (lv' := [(2, .int x28), (0, .ref (a o)), (1, .int x4), (3, .int x26)]) hx hb dX11_packs_112 rfl hl (by decide) rfl (fun ls hl => ?_)
              refine lv_iload_n hx hb dX11_packs_113 rfl (lv_at hl 0 rfl) ?_
              obtain ⟨j140_47, ej140_47, h⟩ := g_jn_nm h
              have hj140_47 : ∀ (x29 : Int32) (x30 : Int32) (x31 : Int32) (x32 : Int32) (x33 : Int32) (x34 : Int32) (x35 : Int32) (f36 : Nat → Int32) (f37 : Nat → Int32) (f38 : Nat → Int32) (f39 : Nat → Int32) (f40 : Nat → Int32) (f41 : Nat → Int32) (f42 : Nat → Int32) (f43 : Nat → Int32) (f44 : Nat → Int32) (f45 : Nat → Int32) (f46 : Nat → Int32) (f47 : Nat → Int32) (H : Heap) (locs : List Loc) (ls : Array Slot), b_Wd D A s.heap H locs [k_Model g a o pasts length printed told state backX backY x30 x31 x32 x33 x34 x35 f36 spare past kept isKept text paper left top wide high original turn f37 f38 f39 f40 f41 f42 f43 f44 f45 f46 f47 aside] → lv_has ls 5 [(0, .ref (a o)), (1, .int x29), (2, .int x28)] → j140_47 x29 x30 x31 x32 x33 x34 x35 f36 f37 f38 f39 f40 f41 f42 f43 f44 f45 f46 f47 = some u → W p l e (g_rm 7 166) s m args below meth c H locs 0 0 Q (F0 m 140 ls []) := by
                intro x29 x30 x31 x32 x33 x34 x35 f36 f37 f38 f39 f40 f41 f42 f43 f44 f45 f46 f47 H locs ls hw hl h
                subst ej140_47
                dsimp only at h
                refine lv_goto (tgt := 45) hx hb dX11_packs_140 (by decide) ?_
                exact ih45 x29 x28 x30 x31 x32 x33 x34 x35 f36 f37 f38 f39 f40 f41 f42 f43 f44 f45 f46 f47 _ _ _ hw (lv_sub hl [0, 1, 2] rfl) h
              refine lv_if_eq (tgt := 140) hx hb dX11_packs_114 (by decide) (fun hc114 => ?_) (fun hc114 => ?_)
              · rw [if_pos hc114] at h
                exact hj140_47 x4 x6 x7 x8 x9 x10 x11 f12 f13 f14 f15 f16 f17 f18 f19 f20 f21 f22 f23 _ _ _ hw (lv_sub hl [1, 2, 0] rfl) h
              · rw [if_neg hc114] at h
                refine lv_aload_n hx hb dX11_packs_117 rfl (lv_at hl 1 rfl) ?_
                refine b_get hx hb hT hK hown fl_X11_80 hw 0 0 rfl rfl (v := .ref (a (o+24))) rfl dX11_packs_118 ?_
                refine lv_iload_n hx hb dX11_packs_121 rfl (lv_at hl 3 rfl) ?_
                refine lv_iconst (v := 1) hx hb dX11_packs_122 (by decide) ?_
                obtain ⟨f49, ef49, hif49, h⟩ := g_wrZ_some h
                refine b_zast hx hb hK hw 0 24 rfl (f := f23) rfl hif49 ef49 rfl (wb' := [k_Model g a o pasts length printed told state backX backY x6 x7 x8 x9 x10 x11 f12 spare past kept isKept text paper left top wide high original turn f13 f14 f15 f16 f17 f18 f19 f20 f21 f22 f49 aside]) rfl dX11_packs_123 (fun H locs hw => ?_)
                refine lv_iload_n hx hb dX11_packs_124 rfl (lv_at hl 2 rfl) ?_
                refine lv_aload_n hx hb dX11_packs_125 rfl (lv_at hl 1 rfl) ?_
                refine lv_iload_n hx hb dX11_packs_126 rfl (lv_at hl 3 rfl) ?_
                obtain ⟨r50, er50, h⟩ := g_cl_some h
                refine b_callV hx hb hml hown hT hK hA hw mk_X11_254 (c_X11_places l D g a o pasts length printed told state backX backY x6 x7 x8 x9 x10 x11 f12 spare past kept isKept text paper left top wide high original turn f13 f14 f15 f16 f17 f18 f19 f20 f21 f22 f49 aside x26 r50 er50) [0] [] rfl (by decide) 0 0 rfl rfl rfl rfl hl.1 [.int x4] rfl (Nat.le_of_ble_eq_true rfl) ⟨Nat.le_of_ble_eq_true rfl, Nat.le_of_ble_eq_true rfl⟩ ⟨Nat.zero_le _, Nat.zero_le _⟩ dX11_packs_127 (wb' := [k_Model g a o pasts length printed told state backX backY r50.2.1 r50.2.2.1 r50.2.2.2.1 r50.2.2.2.2.1 r50.2.2.2.2.2.1 r50.2.2.2.2.2.2.1 r50.2.2.2.2.2.2.2.1 spare past kept isKept text paper left top wide high original turn r50.2.2.2.2.2.2.2.2.1 r50.2.2.2.2.2.2.2.2.2.1 r50.2.2.2.2.2.2.2.2.2.2.1 r50.2.2.2.2.2.2.2.2.2.2.2.1 r50.2.2.2.2.2.2.2.2.2.2.2.2.1 r50.2.2.2.2.2.2.2.2.2.2.2.2.2.1 r50.2.2.2.2.2.2.2.2.2.2.2.2.2.2.1 r50.2.2.2.2.2.2.2.2.2.2.2.2.2.2.2.1 r50.2.2.2.2.2.2.2.2.2.2.2.2.2.2.2.2.1 r50.2.2.2.2.2.2.2.2.2.2.2.2.2.2.2.2.2 f49 aside]) rfl b_e0 1 rfl (by decide) (st2 := [.int r50.1, .int x4]) rfl (fun H locs hw => ?_)
                obtain ⟨j138_51, ej138_51, h⟩ := g_bd_k h
                have hj138_51 : ∀ (x51 : Int32) (H : Heap) (locs : List Loc) (ls : Array Slot), b_Wd D A s.heap H locs [k_Model g a o pasts length printed told state backX backY r50.2.1 r50.2.2.1 r50.2.2.2.1 r50.2.2.2.2.1 r50.2.2.2.2.2.1 r50.2.2.2.2.2.2.1 r50.2.2.2.2.2.2.2.1 spare past kept isKept text paper left top wide high original turn r50.2.2.2.2.2.2.2.2.1 r50.2.2.2.2.2.2.2.2.2.1 r50.2.2.2.2.2.2.2.2.2.2.1 r50.2.2.2.2.2.2.2.2.2.2.2.1 r50.2.2.2.2.2.2.2.2.2.2.2.2.1 r50.2.2.2.2.2.2.2.2.2.2.2.2.2.1 r50.2.2.2.2.2.2.2.2.2.2.2.2.2.2.1 r50.2.2.2.2.2.2.2.2.2.2.2.2.2.2.2.1 r50.2.2.2.2.2.2.2.2.2.2.2.2.2.2.2.2.1 r50.2.2.2.2.2.2.2.2.2.2.2.2.2.2.2.2.2 f49 aside] → lv_has ls 5 [(0, .ref (a o)), (2, .int x28)] → j138_51 x51 = some u → W p l e (g_rm 7 166) s m args below meth c H locs 0 0 Q (F0 m 138 ls [.int x51, .int x4]) := by
                  intro x51 H locs ls hw hl h
                  subst ej138_51
                  dsimp only at h
                  refine lv_iadd hx hb dX11_packs_138 ?_
                  obtain ⟨x52, ex52, h⟩ := g_bd_nm h
                  refine g_topi ex52 ?_
                  refine lv_istore_n (lv' := [(1, .int x52), (0, .ref (a o)), (2, .int x28)]) hx hb dX11_packs_139 rfl hl (by decide) rfl (fun ls hl => ?_)
                  exact hj140_47 x52 r50.2.1 r50.2.2.1 r50.2.2.2.1 r50.2.2.2.2.1 r50.2.2.2.2.2.1 r50.2.2.2.2.2.2.1 r50.2.2.2.2.2.2.2.1 r50.2.2.2.2.2.2.2.2.1 r50.2.2.2.2.2.2.2.2.2.1 r50.2.2.2.2.2.2.2.2.2.2.1 r50.2.2.2.2.2.2.2.2.2.2.2.1 r50.2.2.2.2.2.2.2.2.2.2.2.2.1 r50.2.2.2.2.2.2.2.2.2.2.2.2.2.1 r50.2.2.2.2.2.2.2.2.2.2.2.2.2.2.1 r50.2.2.2.2.2.2.2.2.2.2.2.2.2.2.2.1 r50.2.2.2.2.2.2.2.2.2.2.2.2.2.2.2.2.1 r50.2.2.2.2.2.2.2.2.2.2.2.2.2.2.2.2.2 f49 _ _ _ hw (lv_sub hl [1, 0, 2] rfl) h
                refine lv_if_eq (tgt := 137) hx hb dX11_packs_130 (by decide) (fun hc130 => ?_) (fun hc130 => ?_)
                · rw [if_pos hc130] at h
                  refine lv_iconst (v := 1) hx hb dX11_packs_137 (by decide) ?_
                  exact hj138_51 (1 : Int32) _ _ _ hw (lv_sub hl [1, 0] rfl) h
                · rw [if_neg hc130] at h
                  refine lv_iconst (v := 0) hx hb dX11_packs_133 (by decide) ?_
                  refine lv_goto (tgt := 138) hx hb dX11_packs_134 (by decide) ?_
                  exact hj138_51 (0 : Int32) _ _ _ hw (lv_sub hl [1, 0] rfl) h
            refine lv_if_lt (tgt := 111) hx hb dX11_packs_104 (by decide) (fun hc104 => ?_) (fun hc104 => ?_)
            · rw [if_pos hc104] at h
              refine lv_iconst (v := 0) hx hb dX11_packs_111 (by decide) ?_
              exact hj112_28 (0 : Int32) _ _ _ hw (lv_sub hl [0, 1, 2] rfl) h
            · rw [if_neg hc104] at h
              refine lv_iconst (v := 1) hx hb dX11_packs_107 (by decide) ?_
              refine lv_goto (tgt := 112) hx hb dX11_packs_108 (by decide) ?_
              exact hj112_28 (1 : Int32) _ _ _ hw (lv_sub hl [0, 1, 2] rfl) h
          have hL61 : ∀ (n : Nat) (x53 : Int32) (x54 : Int32) (H : Heap) (locs : List Loc) (ls : Array Slot), b_Wd D A s.heap H locs [k_Model g a o pasts length printed told state backX backY x6 x7 x8 x9 x10 x11 f12 spare past kept isKept text paper left top wide high original turn f13 f14 f15 f16 f17 f18 f19 f20 f21 f22 f23 aside] → lv_has ls 5 [(0, .ref (a o)), (1, .int x4), (3, .int x53), (4, .int x54)] → f_X11_packs_L61 wide high f12 f23 k103_26 n x53 x54 = some u → W p l e (g_rm 7 166) s m args below meth c H locs 0 0 Q (F0 m 61 ls []) := by
            intro n
            induction n with
            | zero =>
              intro x53 x54 H locs ls hw hl h
              cases (show none = some u from h)
            | succ n ih61 =>
              intro x53 x54 H locs ls hw hl h
              rw [f_X11_packs_L61] at h
              refine lv_iload hx hb dX11_packs_61 (lv_at hl 3 rfl) ?_
              refine lv_if_lt (tgt := 103) hx hb dX11_packs_63 (by decide) (fun hc63 => ?_) (fun hc63 => ?_)
              · rw [if_pos hc63] at h
                exact hk103_26 x53 _ _ _ hw (lv_sub hl [0, 1, 2] rfl) h
              · rw [if_neg hc63] at h
                refine lv_aload_n hx hb dX11_packs_66 rfl (lv_at hl 0 rfl) ?_
                refine b_get hx hb hT hK hown fl_X11_80 hw 0 0 rfl rfl (v := .ref (a (o+24))) rfl dX11_packs_67 ?_
                refine lv_iload hx hb dX11_packs_70 (lv_at hl 3 rfl) ?_
                obtain ⟨x55, ex55, hix55, h⟩ := g_rd_some h
                refine b_zald hx hb hK hw 0 24 rfl (f := f23) rfl hix55 ex55 dX11_packs_72 ?_
                obtain ⟨j96_56, ej96_56, h⟩ := g_jn_nm h
                have hj96_56 : ∀ (x56 : Int32) (H : Heap) (locs : List Loc) (ls : Array Slot), b_Wd D A s.heap H locs [k_Model g a o pasts length printed told state backX backY x6 x7 x8 x9 x10 x11 f12 spare past kept isKept text paper left top wide high original turn f13 f14 f15 f16 f17 f18 f19 f20 f21 f22 f23 aside] → lv_has ls 5 [(0, .ref (a o)), (1, .int x4), (4, .int x54)] → j96_56 x56 = some u → W p l e (g_rm 7 166) s m args below meth c H locs 0 0 Q (F0 m 96 ls [.int x56]) := by
                  intro x56 H locs ls hw hl h
                  subst ej96_56
                  dsimp only at h
                  refine lv_istore_n (lv' := [(3, .int x56), (0, .ref (a o)), (1, .int x4), (4, .int x54)]) hx hb dX11_packs_96 rfl hl (by decide) rfl (fun ls hl => ?_)
                  obtain ⟨x58, ex58, h⟩ := g_bd_nm h
                  refine lv_iinc (v := x58) (lv' := [(4, .int x58), (3, .int x56), (0, .ref (a o)), (1, .int x4)]) hx hb dX11_packs_97 hl (k := 3) rfl (by rw [ex58]; rfl) (by decide) rfl (fun ls hl => ?_)
                  refine lv_goto (tgt := 61) hx hb dX11_packs_100 (by decide) ?_
                  exact ih61 x56 x58 _ _ _ hw (lv_sub hl [2, 3, 1, 0] rfl) h
                obtain ⟨j95_58, ej95_58, h⟩ := g_jn_nm h
                have hj95_58 : ∀ (H : Heap) (locs : List Loc) (ls : Array Slot), b_Wd D A s.heap H locs [k_Model g a o pasts length printed told state backX backY x6 x7 x8 x9 x10 x11 f12 spare past kept isKept text paper left top wide high original turn f13 f14 f15 f16 f17 f18 f19 f20 f21 f22 f23 aside] → lv_has ls 5 [(0, .ref (a o)), (1, .int x4), (3, .int x53), (4, .int x54)] → j95_58 = some u → W p l e (g_rm 7 166) s m args below meth c H locs 0 0 Q (F0 m 95 ls []) := by
                  intro  H locs ls hw hl h
                  subst ej95_58
                  refine lv_iload_n hx hb dX11_packs_95 rfl (lv_at hl 2 rfl) ?_
                  exact hj96_56 x53 _ _ _ hw (lv_sub hl [0, 1, 3] rfl) h
                refine lv_if_ne (tgt := 95) hx hb dX11_packs_73 (by decide) (fun hc73 => ?_) (fun hc73 => ?_)
                · rw [if_neg hc73] at h
                  exact hj95_58  _ _ _ hw (lv_sub hl [0, 1, 2, 3] rfl) h
                · rw [if_pos hc73] at h
                  refine lv_iload_n hx hb dX11_packs_76 rfl (lv_at hl 2 rfl) ?_
                  obtain ⟨j90_59, ej90_59, h⟩ := g_jn_nm h
                  have hj90_59 : ∀ (H : Heap) (locs : List Loc) (ls : Array Slot), b_Wd D A s.heap H locs [k_Model g a o pasts length printed told state backX backY x6 x7 x8 x9 x10 x11 f12 spare past kept isKept text paper left top wide high original turn f13 f14 f15 f16 f17 f18 f19 f20 f21 f22 f23 aside] → lv_has ls 5 [(0, .ref (a o)), (1, .int x4), (4, .int x54)] → j90_59 = some u → W p l e (g_rm 7 166) s m args below meth c H locs 0 0 Q (F0 m 90 ls []) := by
                    intro  H locs ls hw hl h
                    subst ej90_59
                    refine lv_iload hx hb dX11_packs_90 (lv_at hl 2 rfl) ?_
                    refine lv_goto (tgt := 96) hx hb dX11_packs_92 (by decide) ?_
                    exact hj96_56 x54 _ _ _ hw (lv_sub hl [0, 1, 2] rfl) h
                  refine lv_if_lt (tgt := 90) hx hb dX11_packs_77 (by decide) (fun hc77 => ?_) (fun hc77 => ?_)
                  · rw [if_pos hc77] at h
                    exact hj90_59  _ _ _ hw (lv_sub hl [0, 1, 3] rfl) h
                  · rw [if_neg hc77] at h
                    refine lv_aload_n hx hb dX11_packs_80 rfl (lv_at hl 0 rfl) ?_
                    refine lv_iload hx hb dX11_packs_81 (lv_at hl 3 rfl) ?_
                    refine lv_iload_n hx hb dX11_packs_83 rfl (lv_at hl 2 rfl) ?_
                    obtain ⟨r61, er61, h⟩ := g_cl_some h
                    refine b_callV hx hb hml hown hT hK hA hw mk_X11_251 (c_X11_isFirst l D g a o pasts length printed told state backX backY x6 x7 x8 x9 x10 x11 f12 spare past kept isKept text paper left top wide high original turn f13 f14 f15 f16 f17 f18 f19 f20 f21 f22 f23 aside x54 x53 r61 er61) [0] [] rfl (by decide) 0 0 rfl rfl rfl rfl hl.1 [] rfl (Nat.le_of_ble_eq_true rfl) ⟨Nat.le_of_ble_eq_true rfl, Nat.le_of_ble_eq_true rfl⟩ ⟨Nat.zero_le _, Nat.zero_le _⟩ dX11_packs_84 (wb' := [k_Model g a o pasts length printed told state backX backY x6 x7 x8 x9 x10 x11 f12 spare past kept isKept text paper left top wide high original turn f13 f14 f15 f16 f17 f18 f19 f20 f21 f22 f23 aside]) rfl b_e0 1 rfl (by decide) (st2 := [.int r61]) rfl (fun H locs hw => ?_)
                    refine lv_if_eq (tgt := 95) hx hb dX11_packs_87 (by decide) (fun hc87 => ?_) (fun hc87 => ?_)
                    · rw [if_pos hc87] at h
                      exact hj95_58  _ _ _ hw (lv_sub hl [0, 1, 2, 3] rfl) h
                    · rw [if_neg hc87] at h
                      exact hj90_59  _ _ _ hw (lv_sub hl [0, 1, 3] rfl) h
          exact hL61 g_fuel (-1 : Int32) x25 _ _ _ hw (lv_sub hl [2, 3, 1, 0] rfl) h
    exact hL45 g_fuel (0 : Int32) (1 : Int32) boxes frees bestFree bestTurned bestFirst bestSecond r1 boxX boxY boxW boxH freeAtX freeAtY freeW freeH begins ends f2 _ _ _ hw (lv_sub hl [1, 2, 0] rfl) h
  have hL8 : ∀ (n : Nat) (x62 : Int32) (f63 : Nat → Int32) (H : Heap) (locs : List Loc) (ls : Array Slot), b_Wd D A s.heap H locs [k_Model g a o pasts length printed told state backX backY boxes frees bestFree bestTurned bestFirst bestSecond r1 spare past kept isKept text paper left top wide high original turn boxX boxY boxW boxH freeAtX freeAtY freeW freeH begins ends f63 aside] → lv_has ls 5 [(0, .ref (a o)), (1, .int (0 : Int32)), (2, .int x62)] → f_X11_packs_L8 wide original r1 k43_2 n x62 f63 = some u → W p l e (g_rm 7 166) s m args below meth c H locs 0 0 Q (F0 m 8 ls []) := by
    intro n
    induction n with
    | zero =>
      intro x62 f63 H locs ls hw hl h
      cases (show none = some u from h)
    | succ n ih8 =>
      intro x62 f63 H locs ls hw hl h
      rw [f_X11_packs_L8] at h
      refine lv_iload_n hx hb dX11_packs_8 rfl (lv_at hl 2 rfl) ?_
      refine lv_aload_n hx hb dX11_packs_9 rfl (lv_at hl 0 rfl) ?_
      refine b_get hx hb hT hK hown fl_X11_7 hw 0 0 rfl rfl (v := .ref (a (o+1))) rfl dX11_packs_10 ?_
      refine lv_iconst (v := 0) hx hb dX11_packs_13 (by decide) ?_
      obtain ⟨x64, ex64, hix64, h⟩ := g_rd_some h
      refine b_iald hx hb hK hw 0 1 rfl (f := r1) rfl hix64 ex64 dX11_packs_14 ?_
      refine lv_icmp_ge (tgt := 43) hx hb dX11_packs_15 (by decide) (fun hc15 => ?_) (fun hc15 => ?_)
      · rw [if_pos hc15] at h
        exact hk43_2 f63 _ _ _ hw (lv_sub hl [0, 1] rfl) h
      · rw [if_neg hc15] at h
        refine lv_aload_n hx hb dX11_packs_18 rfl (lv_at hl 0 rfl) ?_
        refine b_get hx hb hT hK hown fl_X11_80 hw 0 0 rfl rfl (v := .ref (a (o+24))) rfl dX11_packs_19 ?_
        refine lv_iload_n hx hb dX11_packs_22 rfl (lv_at hl 2 rfl) ?_
        refine lv_aload_n hx hb dX11_packs_23 rfl (lv_at hl 0 rfl) ?_
        refine lv_iload_n hx hb dX11_packs_24 rfl (lv_at hl 2 rfl) ?_
        obtain ⟨r65, er65, h⟩ := g_cl_some h
        refine b_callV hx hb hml hown hT hK hA hw mk_X11_248 (c_X11_isOriginal l D g a o pasts length printed told state backX backY boxes frees bestFree bestTurned bestFirst bestSecond r1 spare past kept isKept text paper left top wide high original turn boxX boxY boxW boxH freeAtX freeAtY freeW freeH begins ends f63 aside x62 r65 er65) [0] [] rfl (by decide) 0 0 rfl rfl rfl rfl hl.1 [.int x62, .ref (a (o+24))] rfl (Nat.le_of_ble_eq_true rfl) ⟨Nat.le_of_ble_eq_true rfl, Nat.le_of_ble_eq_true rfl⟩ ⟨Nat.zero_le _, Nat.zero_le _⟩ dX11_packs_25 (wb' := [k_Model g a o pasts length printed told state backX backY boxes frees bestFree bestTurned bestFirst bestSecond r1 spare past kept isKept text paper left top wide high original turn boxX boxY boxW boxH freeAtX freeAtY freeW freeH begins ends f63 aside]) rfl b_e0 1 rfl (by decide) (st2 := [.int r65, .int x62, .ref (a (o+24))]) rfl (fun H locs hw => ?_)
        obtain ⟨j36_66, ej36_66, h⟩ := g_bd_k h
        have hj36_66 : ∀ (x66 : Int32) (H : Heap) (locs : List Loc) (ls : Array Slot), b_Wd D A s.heap H locs [k_Model g a o pasts length printed told state backX backY boxes frees bestFree bestTurned bestFirst bestSecond r1 spare past kept isKept text paper left top wide high original turn boxX boxY boxW boxH freeAtX freeAtY freeW freeH begins ends f63 aside] → lv_has ls 5 [(0, .ref (a o)), (1, .int (0 : Int32)), (2, .int x62)] → j36_66 x66 = some u → W p l e (g_rm 7 166) s m args below meth c H locs 0 0 Q (F0 m 36 ls [.int x66, .int x62, .ref (a (o+24))]) := by
          intro x66 H locs ls hw hl h
          subst ej36_66
          dsimp only at h
          obtain ⟨f67, ef67, hif67, h⟩ := g_wrZ_some h
          refine b_zast hx hb hK hw 0 24 rfl (f := f63) rfl hif67 ef67 rfl (wb' := [k_Model g a o pasts length printed told state backX backY boxes frees bestFree bestTurned bestFirst bestSecond r1 spare past kept isKept text paper left top wide high original turn boxX boxY boxW boxH freeAtX freeAtY freeW freeH begins ends f67 aside]) rfl dX11_packs_36 (fun H locs hw => ?_)
          obtain ⟨x68, ex68, h⟩ := g_bd_nm h
          refine lv_iinc (v := x68) (lv' := [(2, .int x68), (0, .ref (a o)), (1, .int (0 : Int32))]) hx hb dX11_packs_37 hl (k := 2) rfl (by rw [ex68]; rfl) (by decide) rfl (fun ls hl => ?_)
          refine lv_goto (tgt := 8) hx hb dX11_packs_40 (by decide) ?_
          exact ih8 x68 f67 _ _ _ hw (lv_sub hl [1, 2, 0] rfl) h
        refine lv_if_ne (tgt := 35) hx hb dX11_packs_28 (by decide) (fun hc28 => ?_) (fun hc28 => ?_)
        · rw [if_neg hc28] at h
          refine lv_iconst (v := 0) hx hb dX11_packs_35 (by decide) ?_
          exact hj36_66 (0 : Int32) _ _ _ hw (lv_sub hl [0, 1, 2] rfl) h
        · rw [if_pos hc28] at h
          refine lv_iconst (v := 1) hx hb dX11_packs_31 (by decide) ?_
          refine lv_goto (tgt := 36) hx hb dX11_packs_32 (by decide) ?_
          exact hj36_66 (1 : Int32) _ _ _ hw (lv_sub hl [0, 1, 2] rfl) h
  exact hL8 g_fuel (0 : Int32) tried _ _ _ hw (lv_sub hl [2, 1, 0] rfl) h
set_option maxRecDepth 100000 in
set_option maxHeartbeats 4000000 in
theorem c_X11_pack (l : Launch) (D : va_G) (g : Nat → ClassId) (a : Nat → Nat) (o : Nat) (pasts : Int32) (length : Int32) (printed : Int32) (told : Int32) (state : Int64) (backX : Int32) (backY : Int32) (boxes : Int32) (frees : Int32) (bestFree : Int32) (bestTurned : Int32) (bestFirst : Int32) (bestSecond : Int32) (v : (Nat → Int32)) (spare : (Nat → Int32)) (past : (Nat → Int32)) (kept : (Nat → Int32)) (isKept : (Nat → Int32)) (text : (Nat → Int32)) (paper : (Nat → Int32)) (left : (Nat → Int32)) (top : (Nat → Int32)) (wide : (Nat → Int32)) (high : (Nat → Int32)) (original : (Nat → Int32)) (turn : (Nat → Int32)) (boxX : (Nat → Int32)) (boxY : (Nat → Int32)) (boxW : (Nat → Int32)) (boxH : (Nat → Int32)) (freeAtX : (Nat → Int32)) (freeAtY : (Nat → Int32)) (freeW : (Nat → Int32)) (freeH : (Nat → Int32)) (begins : (Nat → Int32)) (ends : (Nat → Int32)) (tried : (Nat → Int32)) (aside : (Nat → Int32)) (u : Int32 × Int32 × Int32 × Int32 × Int32 × Int32 × Int32 × Int32 × Int32 × Int32 × (Nat → Int32) × (Nat → Int32) × (Nat → Int32) × (Nat → Int32) × (Nat → Int32) × (Nat → Int32) × (Nat → Int32) × (Nat → Int32) × (Nat → Int32) × (Nat → Int32) × (Nat → Int32) × (Nat → Int32) × (Nat → Int32) × (Nat → Int32) × (Nat → Int32) × (Nat → Int32) × (Nat → Int32) × (Nat → Int32) × (Nat → Int32)) (h : f_X11_pack pasts backX backY boxes frees bestFree bestTurned bestFirst bestSecond v past left top wide high original turn boxX boxY boxW boxH freeAtX freeAtY freeW freeH begins ends tried = some u) : b_Ct l yX11_pack cX11_pack 1 (some .int) 8 190 D g [.ref (a o)] [k_Model g a o pasts length printed told state backX backY boxes frees bestFree bestTurned bestFirst bestSecond v spare past kept isKept text paper left top wide high original turn boxX boxY boxW boxH freeAtX freeAtY freeW freeH begins ends tried aside] [k_Model g a o u.2.1 length printed told state u.2.2.1 u.2.2.2.1 u.2.2.2.2.1 u.2.2.2.2.2.1 u.2.2.2.2.2.2.1 u.2.2.2.2.2.2.2.1 u.2.2.2.2.2.2.2.2.1 u.2.2.2.2.2.2.2.2.2.1 u.2.2.2.2.2.2.2.2.2.2.1 spare u.2.2.2.2.2.2.2.2.2.2.2.1 kept isKept text paper u.2.2.2.2.2.2.2.2.2.2.2.2.1 u.2.2.2.2.2.2.2.2.2.2.2.2.2.1 u.2.2.2.2.2.2.2.2.2.2.2.2.2.2.1 u.2.2.2.2.2.2.2.2.2.2.2.2.2.2.2.1 u.2.2.2.2.2.2.2.2.2.2.2.2.2.2.2.2.1 u.2.2.2.2.2.2.2.2.2.2.2.2.2.2.2.2.2.1 u.2.2.2.2.2.2.2.2.2.2.2.2.2.2.2.2.2.2.1 u.2.2.2.2.2.2.2.2.2.2.2.2.2.2.2.2.2.2.2.1 u.2.2.2.2.2.2.2.2.2.2.2.2.2.2.2.2.2.2.2.2.1 u.2.2.2.2.2.2.2.2.2.2.2.2.2.2.2.2.2.2.2.2.2.1 u.2.2.2.2.2.2.2.2.2.2.2.2.2.2.2.2.2.2.2.2.2.2.1 u.2.2.2.2.2.2.2.2.2.2.2.2.2.2.2.2.2.2.2.2.2.2.2.1 u.2.2.2.2.2.2.2.2.2.2.2.2.2.2.2.2.2.2.2.2.2.2.2.2.1 u.2.2.2.2.2.2.2.2.2.2.2.2.2.2.2.2.2.2.2.2.2.2.2.2.2.1 u.2.2.2.2.2.2.2.2.2.2.2.2.2.2.2.2.2.2.2.2.2.2.2.2.2.2.1 u.2.2.2.2.2.2.2.2.2.2.2.2.2.2.2.2.2.2.2.2.2.2.2.2.2.2.2.1 u.2.2.2.2.2.2.2.2.2.2.2.2.2.2.2.2.2.2.2.2.2.2.2.2.2.2.2.2 aside] (some (.int u.1)) := by
  refine b_start RX11 (by decide) rfl (Nat.le_of_ble_eq_true rfl) rfl ?_
  intro p e s m args below meth c A ls Q hQ hx hb hr hlk hml hown hT hK hA hw hl
  have hl : lv_has ls 1 [(0, .ref (a o))] := hl
  unfold f_X11_pack at h
  refine lv_aload_n hx hb dX11_pack_0 rfl (lv_at hl 0 rfl) ?_
  obtain ⟨r1, er1, h⟩ := g_cl_some h
  refine b_callV hx hb hml hown hT hK hA hw mk_X11_176 (c_X11_knows l D g a o pasts length printed told state backX backY boxes frees bestFree bestTurned bestFirst bestSecond v spare past kept isKept text paper left top wide high original turn boxX boxY boxW boxH freeAtX freeAtY freeW freeH begins ends tried aside r1 er1) [0] [] rfl (by decide) 0 0 rfl rfl rfl rfl hl.1 [] rfl (Nat.le_of_ble_eq_true rfl) ⟨Nat.le_of_ble_eq_true rfl, Nat.le_of_ble_eq_true rfl⟩ ⟨Nat.zero_le _, Nat.zero_le _⟩ dX11_pack_1 (wb' := [k_Model g a o pasts length printed told state r1.1 r1.2.1 boxes frees bestFree bestTurned bestFirst bestSecond v spare past kept isKept text paper r1.2.2.1 r1.2.2.2.1 r1.2.2.2.2.1 r1.2.2.2.2.2.1 r1.2.2.2.2.2.2.1 r1.2.2.2.2.2.2.2 boxX boxY boxW boxH freeAtX freeAtY freeW freeH begins ends tried aside]) rfl b_e0 1 rfl (by decide) (st2 := []) rfl (fun H locs hw => ?_)
  refine lv_aload_n hx hb dX11_pack_4 rfl (lv_at hl 0 rfl) ?_
  obtain ⟨r2, er2, h⟩ := g_cl_some h
  refine b_callV hx hb hml hown hT hK hA hw mk_X11_98 (c_X11_notes l D g a o pasts length printed told state r1.1 r1.2.1 boxes frees bestFree bestTurned bestFirst bestSecond v spare past kept isKept text paper r1.2.2.1 r1.2.2.2.1 r1.2.2.2.2.1 r1.2.2.2.2.2.1 r1.2.2.2.2.2.2.1 r1.2.2.2.2.2.2.2 boxX boxY boxW boxH freeAtX freeAtY freeW freeH begins ends tried aside r2 er2) [0] [] rfl (by decide) 0 0 rfl rfl rfl rfl hl.1 [] rfl (Nat.le_of_ble_eq_true rfl) ⟨Nat.le_of_ble_eq_true rfl, Nat.le_of_ble_eq_true rfl⟩ ⟨Nat.zero_le _, Nat.zero_le _⟩ dX11_pack_5 (wb' := [k_Model g a o r2.1 length printed told state r1.1 r1.2.1 boxes frees bestFree bestTurned bestFirst bestSecond v spare r2.2 kept isKept text paper r1.2.2.1 r1.2.2.2.1 r1.2.2.2.2.1 r1.2.2.2.2.2.1 r1.2.2.2.2.2.2.1 r1.2.2.2.2.2.2.2 boxX boxY boxW boxH freeAtX freeAtY freeW freeH begins ends tried aside]) rfl b_e0 1 rfl (by decide) (st2 := []) rfl (fun H locs hw => ?_)
  refine lv_aload_n hx hb dX11_pack_8 rfl (lv_at hl 0 rfl) ?_
  obtain ⟨r3, er3, h⟩ := g_cl_some h
  refine b_callV hx hb hml hown hT hK hA hw mk_X11_257 (c_X11_packs l D g a o r2.1 length printed told state r1.1 r1.2.1 boxes frees bestFree bestTurned bestFirst bestSecond v spare r2.2 kept isKept text paper r1.2.2.1 r1.2.2.2.1 r1.2.2.2.2.1 r1.2.2.2.2.2.1 r1.2.2.2.2.2.2.1 r1.2.2.2.2.2.2.2 boxX boxY boxW boxH freeAtX freeAtY freeW freeH begins ends tried aside r3 er3) [0] [] rfl (by decide) 0 0 rfl rfl rfl rfl hl.1 [] rfl (Nat.le_of_ble_eq_true rfl) ⟨Nat.le_of_ble_eq_true rfl, Nat.le_of_ble_eq_true rfl⟩ ⟨Nat.zero_le _, Nat.zero_le _⟩ dX11_pack_9 (wb' := [k_Model g a o r2.1 length printed told state r1.1 r1.2.1 r3.2.1 r3.2.2.1 r3.2.2.2.1 r3.2.2.2.2.1 r3.2.2.2.2.2.1 r3.2.2.2.2.2.2.1 r3.2.2.2.2.2.2.2.1 spare r2.2 kept isKept text paper r1.2.2.1 r1.2.2.2.1 r1.2.2.2.2.1 r1.2.2.2.2.2.1 r1.2.2.2.2.2.2.1 r1.2.2.2.2.2.2.2 r3.2.2.2.2.2.2.2.2.1 r3.2.2.2.2.2.2.2.2.2.1 r3.2.2.2.2.2.2.2.2.2.2.1 r3.2.2.2.2.2.2.2.2.2.2.2.1 r3.2.2.2.2.2.2.2.2.2.2.2.2.1 r3.2.2.2.2.2.2.2.2.2.2.2.2.2.1 r3.2.2.2.2.2.2.2.2.2.2.2.2.2.2.1 r3.2.2.2.2.2.2.2.2.2.2.2.2.2.2.2.1 r3.2.2.2.2.2.2.2.2.2.2.2.2.2.2.2.2.1 r3.2.2.2.2.2.2.2.2.2.2.2.2.2.2.2.2.2.1 r3.2.2.2.2.2.2.2.2.2.2.2.2.2.2.2.2.2.2 aside]) rfl b_e0 1 rfl (by decide) (st2 := [.int r3.1]) rfl (fun H locs hw => ?_)
  obtain rfl := Option.some.inj h
  exact b_iret hQ hx hb hr hlk hw rfl dX11_pack_12
set_option maxRecDepth 100000 in
set_option maxHeartbeats 4000000 in
theorem c_X11_keeps (l : Launch) (D : va_G) (g : Nat → ClassId) (a : Nat → Nat) (o : Nat) (pasts : Int32) (length : Int32) (printed : Int32) (told : Int32) (state : Int64) (backX : Int32) (backY : Int32) (boxes : Int32) (frees : Int32) (bestFree : Int32) (bestTurned : Int32) (bestFirst : Int32) (bestSecond : Int32) (v : (Nat → Int32)) (spare : (Nat → Int32)) (past : (Nat → Int32)) (kept : (Nat → Int32)) (isKept : (Nat → Int32)) (text : (Nat → Int32)) (paper : (Nat → Int32)) (left : (Nat → Int32)) (top : (Nat → Int32)) (wide : (Nat → Int32)) (high : (Nat → Int32)) (original : (Nat → Int32)) (turn : (Nat → Int32)) (boxX : (Nat → Int32)) (boxY : (Nat → Int32)) (boxW : (Nat → Int32)) (boxH : (Nat → Int32)) (freeAtX : (Nat → Int32)) (freeAtY : (Nat → Int32)) (freeW : (Nat → Int32)) (freeH : (Nat → Int32)) (begins : (Nat → Int32)) (ends : (Nat → Int32)) (tried : (Nat → Int32)) (aside : (Nat → Int32)) (u : (Nat → Int32)) (h : f_X11_keeps v spare = some u) : b_Ct l yX11_keeps cX11_keeps 2 none 0 0 D g [.ref (a o)] [k_Model g a o pasts length printed told state backX backY boxes frees bestFree bestTurned bestFirst bestSecond v spare past kept isKept text paper left top wide high original turn boxX boxY boxW boxH freeAtX freeAtY freeW freeH begins ends tried aside] [k_Model g a o pasts length printed told state backX backY boxes frees bestFree bestTurned bestFirst bestSecond v u past kept isKept text paper left top wide high original turn boxX boxY boxW boxH freeAtX freeAtY freeW freeH begins ends tried aside] none := by
  refine b_start RX11 (by decide) rfl (Nat.le_of_ble_eq_true rfl) rfl ?_
  intro p e s m args below meth c A ls Q hQ hx hb hr hlk hml hown hT hK hA hw hl
  have hl : lv_has ls 2 [(0, .ref (a o))] := hl
  unfold f_X11_keeps at h
  refine lv_iconst (v := 0) hx hb dX11_keeps_0 (by decide) ?_
  refine lv_istore_n (lv' := [(1, .int (0 : Int32)), (0, .ref (a o))]) hx hb dX11_keeps_1 rfl hl (by decide) rfl (fun ls hl => ?_)
  have hL2 : ∀ (n : Nat) (x1 : Int32) (f2 : Nat → Int32) (H : Heap) (locs : List Loc) (ls : Array Slot), b_Wd D A s.heap H locs [k_Model g a o pasts length printed told state backX backY boxes frees bestFree bestTurned bestFirst bestSecond v f2 past kept isKept text paper left top wide high original turn boxX boxY boxW boxH freeAtX freeAtY freeW freeH begins ends tried aside] → lv_has ls 2 [(0, .ref (a o)), (1, .int x1)] → f_X11_keeps_L2 v n x1 f2 = some u → W p l e (g_rm 0 0) s m args below meth c H locs 0 0 Q (F0 m 2 ls []) := by
    intro n
    induction n with
    | zero =>
      intro x1 f2 H locs ls hw hl h
      cases (show none = some u from h)
    | succ n ih2 =>
      intro x1 f2 H locs ls hw hl h
      rw [f_X11_keeps_L2] at h
      refine lv_iload_n hx hb dX11_keeps_2 rfl (lv_at hl 1 rfl) ?_
      refine lv_sipush (v := 1748) hx hb dX11_keeps_3 (by decide) ?_
      refine lv_icmp_ge (tgt := 27) hx hb dX11_keeps_6 (by decide) (fun hc6 => ?_) (fun hc6 => ?_)
      · rw [if_pos hc6] at h
        obtain rfl := Option.some.inj h
        exact b_vret hQ hx hb hr hlk hw rfl dX11_keeps_27
      · rw [if_neg hc6] at h
        refine lv_aload_n hx hb dX11_keeps_9 rfl (lv_at hl 0 rfl) ?_
        refine b_get hx hb hT hK hown fl_X11_13 hw 0 0 rfl rfl (v := .ref (a (o+2))) rfl dX11_keeps_10 ?_
        refine lv_iload_n hx hb dX11_keeps_13 rfl (lv_at hl 1 rfl) ?_
        refine lv_aload_n hx hb dX11_keeps_14 rfl (lv_at hl 0 rfl) ?_
        refine b_get hx hb hT hK hown fl_X11_7 hw 0 0 rfl rfl (v := .ref (a (o+1))) rfl dX11_keeps_15 ?_
        refine lv_iload_n hx hb dX11_keeps_18 rfl (lv_at hl 1 rfl) ?_
        obtain ⟨x3, ex3, hix3, h⟩ := g_rd_some h
        refine b_iald hx hb hK hw 0 1 rfl (f := v) rfl hix3 ex3 dX11_keeps_19 ?_
        obtain ⟨f4, ef4, hif4, h⟩ := g_wr_some h
        refine b_iast hx hb hK hw 0 2 rfl (f := f2) rfl hif4 ef4 rfl (wb' := [k_Model g a o pasts length printed told state backX backY boxes frees bestFree bestTurned bestFirst bestSecond v f4 past kept isKept text paper left top wide high original turn boxX boxY boxW boxH freeAtX freeAtY freeW freeH begins ends tried aside]) rfl dX11_keeps_20 (fun H locs hw => ?_)
        obtain ⟨x5, ex5, h⟩ := g_bd_nm h
        refine lv_iinc (v := x5) (lv' := [(1, .int x5), (0, .ref (a o))]) hx hb dX11_keeps_21 hl (k := 1) rfl (by rw [ex5]; rfl) (by decide) rfl (fun ls hl => ?_)
        refine lv_goto (tgt := 2) hx hb dX11_keeps_24 (by decide) ?_
        exact ih2 x5 f4 _ _ _ hw (lv_sub hl [1, 0] rfl) h
  exact hL2 g_fuel (0 : Int32) spare _ _ _ hw (lv_sub hl [1, 0] rfl) h
