set_option maxRecDepth 100000 in
set_option maxHeartbeats 4000000 in
theorem c_X11_offers (l : Launch) (D : va_G) (g : Nat → ClassId) (a : Nat → Nat) (o : Nat) (pasts : Int32) (length : Int32) (printed : Int32) (told : Int32) (state : Int64) (backX : Int32) (backY : Int32) (boxes : Int32) (frees : Int32) (bestFree : Int32) (bestTurned : Int32) (bestFirst : Int32) (bestSecond : Int32) (v : (Nat → Int32)) (spare : (Nat → Int32)) (past : (Nat → Int32)) (kept : (Nat → Int32)) (isKept : (Nat → Int32)) (text : (Nat → Int32)) (paper : (Nat → Int32)) (left : (Nat → Int32)) (top : (Nat → Int32)) (wide : (Nat → Int32)) (high : (Nat → Int32)) (original : (Nat → Int32)) (turn : (Nat → Int32)) (boxX : (Nat → Int32)) (boxY : (Nat → Int32)) (boxW : (Nat → Int32)) (boxH : (Nat → Int32)) (freeAtX : (Nat → Int32)) (freeAtY : (Nat → Int32)) (freeW : (Nat → Int32)) (freeH : (Nat → Int32)) (begins : (Nat → Int32)) (ends : (Nat → Int32)) (tried : (Nat → Int32)) (aside : (Nat → Int32)) (i1 : Int32) (i2 : Int32) (i3 : Int32) (i4 : Int32) (u : Int32 × (Nat → Int32) × (Nat → Int32) × (Nat → Int32) × (Nat → Int32)) (h : f_X11_offers boxes frees v boxX boxY boxW boxH freeAtX freeAtY freeW freeH i1 i2 i3 i4 = some u) : b_Ct l yX11_offers cX11_offers 6 none 2 47 D g [.ref (a o), .int i1, .int i2, .int i3, .int i4] [k_Model g a o pasts length printed told state backX backY boxes frees bestFree bestTurned bestFirst bestSecond v spare past kept isKept text paper left top wide high original turn boxX boxY boxW boxH freeAtX freeAtY freeW freeH begins ends tried aside] [k_Model g a o pasts length printed told state backX backY boxes u.1 bestFree bestTurned bestFirst bestSecond v spare past kept isKept text paper left top wide high original turn boxX boxY boxW boxH u.2.1 u.2.2.1 u.2.2.2.1 u.2.2.2.2 begins ends tried aside] none := by
  refine b_start RX11 (by decide) rfl (Nat.le_of_ble_eq_true rfl) rfl ?_
  intro p e s m args below meth c A ls Q hQ hx hb hr hlk hml hown hT hK hA hw hl
  have hl : lv_has ls 6 [(0, .ref (a o)), (1, .int i1), (2, .int i2), (3, .int i3), (4, .int i4)] := hl
  unfold f_X11_offers at h
  refine lv_iload_n hx hb dX11_offers_0 rfl (lv_at hl 3 rfl) ?_
  refine lv_iload hx hb dX11_offers_1 (lv_at hl 4 rfl) ?_
  refine lv_icmp_ge (tgt := 42) hx hb dX11_offers_3 (by decide) (fun hc3 => ?_) (fun hc3 => ?_)
  · rw [if_pos hc3] at h
    obtain rfl := Option.some.inj h
    exact b_vret hQ hx hb hr hlk hw rfl dX11_offers_42
  · rw [if_neg hc3] at h
    refine lv_iload_n hx hb dX11_offers_6 rfl (lv_at hl 1 rfl) ?_
    obtain ⟨j23_0, ej23_0, h⟩ := g_jn_nm h
    have hj23_0 : ∀ (H : Heap) (locs : List Loc) (ls : Array Slot), b_Wd D A s.heap H locs [k_Model g a o pasts length printed told state backX backY boxes frees bestFree bestTurned bestFirst bestSecond v spare past kept isKept text paper left top wide high original turn boxX boxY boxW boxH freeAtX freeAtY freeW freeH begins ends tried aside] → lv_has ls 6 [(0, .ref (a o)), (1, .int i1), (2, .int i2), (3, .int i3), (4, .int i4)] → j23_0 = some u → W p l e (g_rm 2 47) s m args below meth c H locs 0 0 Q (F0 m 23 ls []) := by
      intro  H locs ls hw hl h
      subst ej23_0
      refine lv_iload_n hx hb dX11_offers_23 rfl (lv_at hl 2 rfl) ?_
      refine lv_aload_n hx hb dX11_offers_24 rfl (lv_at hl 0 rfl) ?_
      obtain ⟨r2, er2, h⟩ := g_cl_some h
      refine b_callV hx hb hml hown hT hK hA hw mk_X11_197 (c_X11_fieldWidth l D g a o pasts length printed told state backX backY boxes frees bestFree bestTurned bestFirst bestSecond v spare past kept isKept text paper left top wide high original turn boxX boxY boxW boxH freeAtX freeAtY freeW freeH begins ends tried aside r2 er2) [0] [] rfl (by decide) 0 0 rfl rfl rfl rfl hl.1 [.int i2] rfl (Nat.le_of_ble_eq_true rfl) ⟨Nat.le_of_ble_eq_true rfl, Nat.le_of_ble_eq_true rfl⟩ ⟨Nat.zero_le _, Nat.zero_le _⟩ dX11_offers_25 (wb' := [k_Model g a o pasts length printed told state backX backY boxes frees bestFree bestTurned bestFirst bestSecond v spare past kept isKept text paper left top wide high original turn boxX boxY boxW boxH freeAtX freeAtY freeW freeH begins ends tried aside]) rfl b_e0 1 rfl (by decide) (st2 := [.int r2, .int i2]) rfl (fun H locs hw => ?_)
      obtain ⟨j43_2, ej43_2, h⟩ := g_jn_nm h
      have hj43_2 : ∀ (H : Heap) (locs : List Loc) (ls : Array Slot), b_Wd D A s.heap H locs [k_Model g a o pasts length printed told state backX backY boxes frees bestFree bestTurned bestFirst bestSecond v spare past kept isKept text paper left top wide high original turn boxX boxY boxW boxH freeAtX freeAtY freeW freeH begins ends tried aside] → lv_has ls 6 [(0, .ref (a o)), (1, .int i1), (2, .int i2), (3, .int i3), (4, .int i4)] → j43_2 = some u → W p l e (g_rm 2 47) s m args below meth c H locs 0 0 Q (F0 m 43 ls []) := by
        intro  H locs ls hw hl h
        subst ej43_2
        refine lv_aload_n hx hb dX11_offers_43 rfl (lv_at hl 0 rfl) ?_
        refine b_get hx hb hT hK hown fl_X11_200 hw 0 0 rfl rfl (v := .int frees) rfl dX11_offers_44 ?_
        refine lv_istore (lv' := [(5, .int frees), (0, .ref (a o)), (1, .int i1), (2, .int i2), (3, .int i3), (4, .int i4)]) hx hb dX11_offers_47 hl (by decide) rfl (fun ls hl => ?_)
        obtain ⟨k140_8, ek140_8, h⟩ := g_jn_nm h
        have hk140_8 : ∀ (x4 : Int32) (f5 : Nat → Int32) (f6 : Nat → Int32) (f7 : Nat → Int32) (f8 : Nat → Int32) (H : Heap) (locs : List Loc) (ls : Array Slot), b_Wd D A s.heap H locs [k_Model g a o pasts length printed told state backX backY boxes frees bestFree bestTurned bestFirst bestSecond v spare past kept isKept text paper left top wide high original turn boxX boxY boxW boxH f5 f6 f7 f8 begins ends tried aside] → lv_has ls 6 [(0, .ref (a o)), (1, .int i1), (2, .int i2), (3, .int i3), (4, .int i4), (5, .int x4)] → k140_8 x4 f5 f6 f7 f8 = some u → W p l e (g_rm 2 47) s m args below meth c H locs 0 0 Q (F0 m 140 ls []) := by
          intro x4 f5 f6 f7 f8 H locs ls hw hl h
          subst ek140_8
          dsimp only at h
          refine lv_aload_n hx hb dX11_offers_140 rfl (lv_at hl 0 rfl) ?_
          refine b_get hx hb hT hK hown fl_X11_62 hw 0 0 rfl rfl (v := .ref (a (o+18))) rfl dX11_offers_141 ?_
          refine lv_iload hx hb dX11_offers_144 (lv_at hl 5 rfl) ?_
          refine lv_iload_n hx hb dX11_offers_146 rfl (lv_at hl 1 rfl) ?_
          obtain ⟨f10, ef10, hif10, h⟩ := g_wr_some h
          refine b_iast hx hb hK hw 0 18 rfl (f := f5) rfl hif10 ef10 rfl (wb' := [k_Model g a o pasts length printed told state backX backY boxes frees bestFree bestTurned bestFirst bestSecond v spare past kept isKept text paper left top wide high original turn boxX boxY boxW boxH f10 f6 f7 f8 begins ends tried aside]) rfl dX11_offers_147 (fun H locs hw => ?_)
          refine lv_aload_n hx hb dX11_offers_148 rfl (lv_at hl 0 rfl) ?_
          refine b_get hx hb hT hK hown fl_X11_65 hw 0 0 rfl rfl (v := .ref (a (o+19))) rfl dX11_offers_149 ?_
          refine lv_iload hx hb dX11_offers_152 (lv_at hl 5 rfl) ?_
          refine lv_iload_n hx hb dX11_offers_154 rfl (lv_at hl 3 rfl) ?_
          obtain ⟨f11, ef11, hif11, h⟩ := g_wr_some h
          refine b_iast hx hb hK hw 0 19 rfl (f := f6) rfl hif11 ef11 rfl (wb' := [k_Model g a o pasts length printed told state backX backY boxes frees bestFree bestTurned bestFirst bestSecond v spare past kept isKept text paper left top wide high original turn boxX boxY boxW boxH f10 f11 f7 f8 begins ends tried aside]) rfl dX11_offers_155 (fun H locs hw => ?_)
          refine lv_aload_n hx hb dX11_offers_156 rfl (lv_at hl 0 rfl) ?_
          refine b_get hx hb hT hK hown fl_X11_68 hw 0 0 rfl rfl (v := .ref (a (o+20))) rfl dX11_offers_157 ?_
          refine lv_iload hx hb dX11_offers_160 (lv_at hl 5 rfl) ?_
          refine lv_iload_n hx hb dX11_offers_162 rfl (lv_at hl 2 rfl) ?_
          refine lv_iload_n hx hb dX11_offers_163 rfl (lv_at hl 1 rfl) ?_
          refine lv_isub hx hb dX11_offers_164 ?_
          obtain ⟨x12, ex12, h⟩ := g_bd_nm h
          refine g_topi ex12 ?_
          obtain ⟨f13, ef13, hif13, h⟩ := g_wr_some h
          refine b_iast hx hb hK hw 0 20 rfl (f := f7) rfl hif13 ef13 rfl (wb' := [k_Model g a o pasts length printed told state backX backY boxes frees bestFree bestTurned bestFirst bestSecond v spare past kept isKept text paper left top wide high original turn boxX boxY boxW boxH f10 f11 f13 f8 begins ends tried aside]) rfl dX11_offers_165 (fun H locs hw => ?_)
          refine lv_aload_n hx hb dX11_offers_166 rfl (lv_at hl 0 rfl) ?_
          refine b_get hx hb hT hK hown fl_X11_71 hw 0 0 rfl rfl (v := .ref (a (o+21))) rfl dX11_offers_167 ?_
          refine lv_iload hx hb dX11_offers_170 (lv_at hl 5 rfl) ?_
          refine lv_iload hx hb dX11_offers_172 (lv_at hl 4 rfl) ?_
          refine lv_iload_n hx hb dX11_offers_174 rfl (lv_at hl 3 rfl) ?_
          refine lv_isub hx hb dX11_offers_175 ?_
          obtain ⟨x14, ex14, h⟩ := g_bd_nm h
          refine g_topi ex14 ?_
          obtain ⟨f15, ef15, hif15, h⟩ := g_wr_some h
          refine b_iast hx hb hK hw 0 21 rfl (f := f8) rfl hif15 ef15 rfl (wb' := [k_Model g a o pasts length printed told state backX backY boxes frees bestFree bestTurned bestFirst bestSecond v spare past kept isKept text paper left top wide high original turn boxX boxY boxW boxH f10 f11 f13 f15 begins ends tried aside]) rfl dX11_offers_176 (fun H locs hw => ?_)
          refine lv_aload_n hx hb dX11_offers_177 rfl (lv_at hl 0 rfl) ?_
          refine lv_dup hx hb dX11_offers_178 rfl ?_
          refine b_get hx hb hT hK hown fl_X11_200 hw 0 0 rfl rfl (v := .int frees) rfl dX11_offers_179 ?_
          refine lv_iconst (v := 1) hx hb dX11_offers_182 (by decide) ?_
          refine lv_iadd hx hb dX11_offers_183 ?_
          obtain ⟨x16, ex16, h⟩ := g_bd_nm h
          refine g_topi ex16 ?_
          refine b_putf hx hb hT hK hown fl_X11_200 ft_X11 hw 0 0 rfl rfl rfl rfl rfl (Nat.le_of_ble_eq_true rfl) rfl (wb' := [k_Model g a o pasts length printed told state backX backY boxes x16 bestFree bestTurned bestFirst bestSecond v spare past kept isKept text paper left top wide high original turn boxX boxY boxW boxH f10 f11 f13 f15 begins ends tried aside]) rfl dX11_offers_184 (fun H locs hw => ?_)
          obtain rfl := Option.some.inj h
          exact b_vret hQ hx hb hr hlk hw rfl dX11_offers_187
        have hL49 : ∀ (n : Nat) (x17 : Int32) (f18 : Nat → Int32) (f19 : Nat → Int32) (f20 : Nat → Int32) (f21 : Nat → Int32) (H : Heap) (locs : List Loc) (ls : Array Slot), b_Wd D A s.heap H locs [k_Model g a o pasts length printed told state backX backY boxes frees bestFree bestTurned bestFirst bestSecond v spare past kept isKept text paper left top wide high original turn boxX boxY boxW boxH f18 f19 f20 f21 begins ends tried aside] → lv_has ls 6 [(0, .ref (a o)), (1, .int i1), (2, .int i2), (3, .int i3), (4, .int i4), (5, .int x17)] → f_X11_offers_L49 i1 i2 i3 k140_8 n x17 f18 f19 f20 f21 = some u → W p l e (g_rm 2 47) s m args below meth c H locs 0 0 Q (F0 m 49 ls []) := by
          intro n
          induction n with
          | zero =>
            intro x17 f18 f19 f20 f21 H locs ls hw hl h
            cases (show none = some u from h)
          | succ n ih49 =>
            intro x17 f18 f19 f20 f21 H locs ls hw hl h
            rw [f_X11_offers_L49] at h
            refine lv_iload hx hb dX11_offers_49 (lv_at hl 5 rfl) ?_
            refine lv_if_le (tgt := 140) hx hb dX11_offers_51 (by decide) (fun hc51 => ?_) (fun hc51 => ?_)
            · rw [if_pos hc51] at h
              exact hk140_8 x17 f18 f19 f20 f21 _ _ _ hw (lv_sub hl [0, 1, 2, 3, 4, 5] rfl) h
            · rw [if_neg hc51] at h
              refine lv_aload_n hx hb dX11_offers_54 rfl (lv_at hl 0 rfl) ?_
              refine lv_iload hx hb dX11_offers_55 (lv_at hl 5 rfl) ?_
              refine lv_iconst (v := 1) hx hb dX11_offers_57 (by decide) ?_
              refine lv_isub hx hb dX11_offers_58 ?_
              refine lv_iload_n hx hb dX11_offers_59 rfl (lv_at hl 1 rfl) ?_
              refine lv_iload_n hx hb dX11_offers_60 rfl (lv_at hl 3 rfl) ?_
              refine lv_iload_n hx hb dX11_offers_61 rfl (lv_at hl 2 rfl) ?_
              refine lv_iload_n hx hb dX11_offers_62 rfl (lv_at hl 1 rfl) ?_
              refine lv_isub hx hb dX11_offers_63 ?_
              obtain ⟨r22, er22, h⟩ := g_cl_some h
              refine b_callV hx hb hml hown hT hK hA hw mk_X11_203 (c_X11_isBehind l D g a o pasts length printed told state backX backY boxes frees bestFree bestTurned bestFirst bestSecond v spare past kept isKept text paper left top wide high original turn boxX boxY boxW boxH f18 f19 f20 f21 begins ends tried aside (x17 - (1 : Int32)) i1 i3 (i2 - i1) r22 er22) [0] [] rfl (by decide) 0 0 rfl rfl rfl rfl hl.1 [] rfl (Nat.le_of_ble_eq_true rfl) ⟨Nat.le_of_ble_eq_true rfl, Nat.le_of_ble_eq_true rfl⟩ ⟨Nat.zero_le _, Nat.zero_le _⟩ dX11_offers_64 (wb' := [k_Model g a o pasts length printed told state backX backY boxes frees bestFree bestTurned bestFirst bestSecond v spare past kept isKept text paper left top wide high original turn boxX boxY boxW boxH f18 f19 f20 f21 begins ends tried aside]) rfl b_e0 1 rfl (by decide) (st2 := [.int r22]) rfl (fun H locs hw => ?_)
              refine lv_if_eq (tgt := 140) hx hb dX11_offers_67 (by decide) (fun hc67 => ?_) (fun hc67 => ?_)
              · rw [if_pos hc67] at h
                exact hk140_8 x17 f18 f19 f20 f21 _ _ _ hw (lv_sub hl [0, 1, 2, 3, 4, 5] rfl) h
              · rw [if_neg hc67] at h
                refine lv_aload_n hx hb dX11_offers_70 rfl (lv_at hl 0 rfl) ?_
                refine b_get hx hb hT hK hown fl_X11_62 hw 0 0 rfl rfl (v := .ref (a (o+18))) rfl dX11_offers_71 ?_
                refine lv_iload hx hb dX11_offers_74 (lv_at hl 5 rfl) ?_
                refine lv_aload_n hx hb dX11_offers_76 rfl (lv_at hl 0 rfl) ?_
                refine b_get hx hb hT hK hown fl_X11_62 hw 0 0 rfl rfl (v := .ref (a (o+18))) rfl dX11_offers_77 ?_
                refine lv_iload hx hb dX11_offers_80 (lv_at hl 5 rfl) ?_
                refine lv_iconst (v := 1) hx hb dX11_offers_82 (by decide) ?_
                refine lv_isub hx hb dX11_offers_83 ?_
                obtain ⟨x23, ex23, hix23, h⟩ := g_rd_some h
                refine b_iald hx hb hK hw 0 18 rfl (f := f18) rfl hix23 ex23 dX11_offers_84 ?_
                obtain ⟨f24, ef24, hif24, h⟩ := g_wr_some h
                refine b_iast hx hb hK hw 0 18 rfl (f := f18) rfl hif24 ef24 rfl (wb' := [k_Model g a o pasts length printed told state backX backY boxes frees bestFree bestTurned bestFirst bestSecond v spare past kept isKept text paper left top wide high original turn boxX boxY boxW boxH f24 f19 f20 f21 begins ends tried aside]) rfl dX11_offers_85 (fun H locs hw => ?_)
                refine lv_aload_n hx hb dX11_offers_86 rfl (lv_at hl 0 rfl) ?_
                refine b_get hx hb hT hK hown fl_X11_65 hw 0 0 rfl rfl (v := .ref (a (o+19))) rfl dX11_offers_87 ?_
                refine lv_iload hx hb dX11_offers_90 (lv_at hl 5 rfl) ?_
                refine lv_aload_n hx hb dX11_offers_92 rfl (lv_at hl 0 rfl) ?_
                refine b_get hx hb hT hK hown fl_X11_65 hw 0 0 rfl rfl (v := .ref (a (o+19))) rfl dX11_offers_93 ?_
                refine lv_iload hx hb dX11_offers_96 (lv_at hl 5 rfl) ?_
                refine lv_iconst (v := 1) hx hb dX11_offers_98 (by decide) ?_
                refine lv_isub hx hb dX11_offers_99 ?_
                obtain ⟨x25, ex25, hix25, h⟩ := g_rd_some h
                refine b_iald hx hb hK hw 0 19 rfl (f := f19) rfl hix25 ex25 dX11_offers_100 ?_
                obtain ⟨f26, ef26, hif26, h⟩ := g_wr_some h
                refine b_iast hx hb hK hw 0 19 rfl (f := f19) rfl hif26 ef26 rfl (wb' := [k_Model g a o pasts length printed told state backX backY boxes frees bestFree bestTurned bestFirst bestSecond v spare past kept isKept text paper left top wide high original turn boxX boxY boxW boxH f24 f26 f20 f21 begins ends tried aside]) rfl dX11_offers_101 (fun H locs hw => ?_)
                refine lv_aload_n hx hb dX11_offers_102 rfl (lv_at hl 0 rfl) ?_
                refine b_get hx hb hT hK hown fl_X11_68 hw 0 0 rfl rfl (v := .ref (a (o+20))) rfl dX11_offers_103 ?_
                refine lv_iload hx hb dX11_offers_106 (lv_at hl 5 rfl) ?_
                refine lv_aload_n hx hb dX11_offers_108 rfl (lv_at hl 0 rfl) ?_
                refine b_get hx hb hT hK hown fl_X11_68 hw 0 0 rfl rfl (v := .ref (a (o+20))) rfl dX11_offers_109 ?_
                refine lv_iload hx hb dX11_offers_112 (lv_at hl 5 rfl) ?_
                refine lv_iconst (v := 1) hx hb dX11_offers_114 (by decide) ?_
                refine lv_isub hx hb dX11_offers_115 ?_
                obtain ⟨x27, ex27, hix27, h⟩ := g_rd_some h
                refine b_iald hx hb hK hw 0 20 rfl (f := f20) rfl hix27 ex27 dX11_offers_116 ?_
                obtain ⟨f28, ef28, hif28, h⟩ := g_wr_some h
                refine b_iast hx hb hK hw 0 20 rfl (f := f20) rfl hif28 ef28 rfl (wb' := [k_Model g a o pasts length printed told state backX backY boxes frees bestFree bestTurned bestFirst bestSecond v spare past kept isKept text paper left top wide high original turn boxX boxY boxW boxH f24 f26 f28 f21 begins ends tried aside]) rfl dX11_offers_117 (fun H locs hw => ?_)
                refine lv_aload_n hx hb dX11_offers_118 rfl (lv_at hl 0 rfl) ?_
                refine b_get hx hb hT hK hown fl_X11_71 hw 0 0 rfl rfl (v := .ref (a (o+21))) rfl dX11_offers_119 ?_
                refine lv_iload hx hb dX11_offers_122 (lv_at hl 5 rfl) ?_
                refine lv_aload_n hx hb dX11_offers_124 rfl (lv_at hl 0 rfl) ?_
                refine b_get hx hb hT hK hown fl_X11_71 hw 0 0 rfl rfl (v := .ref (a (o+21))) rfl dX11_offers_125 ?_
                refine lv_iload hx hb dX11_offers_128 (lv_at hl 5 rfl) ?_
                refine lv_iconst (v := 1) hx hb dX11_offers_130 (by decide) ?_
                refine lv_isub hx hb dX11_offers_131 ?_
                obtain ⟨x29, ex29, hix29, h⟩ := g_rd_some h
                refine b_iald hx hb hK hw 0 21 rfl (f := f21) rfl hix29 ex29 dX11_offers_132 ?_
                obtain ⟨f30, ef30, hif30, h⟩ := g_wr_some h
                refine b_iast hx hb hK hw 0 21 rfl (f := f21) rfl hif30 ef30 rfl (wb' := [k_Model g a o pasts length printed told state backX backY boxes frees bestFree bestTurned bestFirst bestSecond v spare past kept isKept text paper left top wide high original turn boxX boxY boxW boxH f24 f26 f28 f30 begins ends tried aside]) rfl dX11_offers_133 (fun H locs hw => ?_)
                obtain ⟨x31, ex31, h⟩ := g_bd_nm h
                refine lv_iinc (v := x31) (lv' := [(5, .int x31), (0, .ref (a o)), (1, .int i1), (2, .int i2), (3, .int i3), (4, .int i4)]) hx hb dX11_offers_134 hl (k := 5) rfl (by rw [ex31]; rfl) (by decide) rfl (fun ls hl => ?_)
                refine lv_goto (tgt := 49) hx hb dX11_offers_137 (by decide) ?_
                exact ih49 x31 f24 f26 f28 f30 _ _ _ hw (lv_sub hl [1, 2, 3, 4, 5, 0] rfl) h
        exact hL49 g_fuel frees freeAtX freeAtY freeW freeH _ _ _ hw (lv_sub hl [1, 2, 3, 4, 5, 0] rfl) h
      refine lv_icmp_ge (tgt := 43) hx hb dX11_offers_28 (by decide) (fun hc28 => ?_) (fun hc28 => ?_)
      · rw [if_pos hc28] at h
        exact hj43_2  _ _ _ hw (lv_sub hl [0, 1, 2, 3, 4] rfl) h
      · rw [if_neg hc28] at h
        refine lv_aload_n hx hb dX11_offers_31 rfl (lv_at hl 0 rfl) ?_
        refine lv_iload_n hx hb dX11_offers_32 rfl (lv_at hl 2 rfl) ?_
        refine lv_iload_n hx hb dX11_offers_33 rfl (lv_at hl 3 rfl) ?_
        refine lv_iload hx hb dX11_offers_34 (lv_at hl 4 rfl) ?_
        obtain ⟨r32, er32, h⟩ := g_cl_some h
        refine b_callV hx hb hml hown hT hK hA hw mk_X11_194 (c_X11_isHeld l D g a o pasts length printed told state backX backY boxes frees bestFree bestTurned bestFirst bestSecond v spare past kept isKept text paper left top wide high original turn boxX boxY boxW boxH freeAtX freeAtY freeW freeH begins ends tried aside i2 i3 i4 r32 er32) [0] [] rfl (by decide) 0 0 rfl rfl rfl rfl hl.1 [] rfl (Nat.le_of_ble_eq_true rfl) ⟨Nat.le_of_ble_eq_true rfl, Nat.le_of_ble_eq_true rfl⟩ ⟨Nat.zero_le _, Nat.zero_le _⟩ dX11_offers_36 (wb' := [k_Model g a o pasts length printed told state backX backY boxes frees bestFree bestTurned bestFirst bestSecond v spare past kept isKept text paper left top wide high original turn boxX boxY boxW boxH freeAtX freeAtY freeW freeH begins ends tried aside]) rfl b_e0 1 rfl (by decide) (st2 := [.int r32]) rfl (fun H locs hw => ?_)
        refine lv_if_ne (tgt := 43) hx hb dX11_offers_39 (by decide) (fun hc39 => ?_) (fun hc39 => ?_)
        · rw [if_neg hc39] at h
          exact hj43_2  _ _ _ hw (lv_sub hl [0, 1, 2, 3, 4] rfl) h
        · rw [if_pos hc39] at h
          obtain rfl := Option.some.inj h
          exact b_vret hQ hx hb hr hlk hw rfl dX11_offers_42
    refine lv_if_le (tgt := 23) hx hb dX11_offers_7 (by decide) (fun hc7 => ?_) (fun hc7 => ?_)
    · rw [if_pos hc7] at h
      exact hj23_0  _ _ _ hw (lv_sub hl [0, 1, 2, 3, 4] rfl) h
    · rw [if_neg hc7] at h
      refine lv_aload_n hx hb dX11_offers_10 rfl (lv_at hl 0 rfl) ?_
      refine lv_iload_n hx hb dX11_offers_11 rfl (lv_at hl 1 rfl) ?_
      refine lv_iconst (v := 1) hx hb dX11_offers_12 (by decide) ?_
      refine lv_isub hx hb dX11_offers_13 ?_
      refine lv_iload_n hx hb dX11_offers_14 rfl (lv_at hl 3 rfl) ?_
      refine lv_iload hx hb dX11_offers_15 (lv_at hl 4 rfl) ?_
      obtain ⟨r33, er33, h⟩ := g_cl_some h
      refine b_callV hx hb hml hown hT hK hA hw mk_X11_194 (c_X11_isHeld l D g a o pasts length printed told state backX backY boxes frees bestFree bestTurned bestFirst bestSecond v spare past kept isKept text paper left top wide high original turn boxX boxY boxW boxH freeAtX freeAtY freeW freeH begins ends tried aside (i1 - (1 : Int32)) i3 i4 r33 er33) [0] [] rfl (by decide) 0 0 rfl rfl rfl rfl hl.1 [] rfl (Nat.le_of_ble_eq_true rfl) ⟨Nat.le_of_ble_eq_true rfl, Nat.le_of_ble_eq_true rfl⟩ ⟨Nat.zero_le _, Nat.zero_le _⟩ dX11_offers_17 (wb' := [k_Model g a o pasts length printed told state backX backY boxes frees bestFree bestTurned bestFirst bestSecond v spare past kept isKept text paper left top wide high original turn boxX boxY boxW boxH freeAtX freeAtY freeW freeH begins ends tried aside]) rfl b_e0 1 rfl (by decide) (st2 := [.int r33]) rfl (fun H locs hw => ?_)
      refine lv_if_eq (tgt := 42) hx hb dX11_offers_20 (by decide) (fun hc20 => ?_) (fun hc20 => ?_)
      · rw [if_pos hc20] at h
        obtain rfl := Option.some.inj h
        exact b_vret hQ hx hb hr hlk hw rfl dX11_offers_42
      · rw [if_neg hc20] at h
        exact hj23_0  _ _ _ hw (lv_sub hl [0, 1, 2, 3, 4] rfl) h
set_option maxRecDepth 100000 in
set_option maxHeartbeats 4000000 in
theorem c_X11_between (l : Launch) (D : va_G) (g : Nat → ClassId) (a : Nat → Nat) (o : Nat) (pasts : Int32) (length : Int32) (printed : Int32) (told : Int32) (state : Int64) (backX : Int32) (backY : Int32) (boxes : Int32) (frees : Int32) (bestFree : Int32) (bestTurned : Int32) (bestFirst : Int32) (bestSecond : Int32) (v : (Nat → Int32)) (spare : (Nat → Int32)) (past : (Nat → Int32)) (kept : (Nat → Int32)) (isKept : (Nat → Int32)) (text : (Nat → Int32)) (paper : (Nat → Int32)) (left : (Nat → Int32)) (top : (Nat → Int32)) (wide : (Nat → Int32)) (high : (Nat → Int32)) (original : (Nat → Int32)) (turn : (Nat → Int32)) (boxX : (Nat → Int32)) (boxY : (Nat → Int32)) (boxW : (Nat → Int32)) (boxH : (Nat → Int32)) (freeAtX : (Nat → Int32)) (freeAtY : (Nat → Int32)) (freeW : (Nat → Int32)) (freeH : (Nat → Int32)) (begins : (Nat → Int32)) (ends : (Nat → Int32)) (tried : (Nat → Int32)) (aside : (Nat → Int32)) (i1 : Int32) (i2 : Int32) (u : Int32 × (Nat → Int32) × (Nat → Int32) × (Nat → Int32) × (Nat → Int32)) (h : f_X11_between boxes frees v boxX boxY boxW boxH freeAtX freeAtY freeW freeH i1 i2 = some u) : b_Ct l yX11_between cX11_between 5 none 3 72 D g [.ref (a o), .int i1, .int i2] [k_Model g a o pasts length printed told state backX backY boxes frees bestFree bestTurned bestFirst bestSecond v spare past kept isKept text paper left top wide high original turn boxX boxY boxW boxH freeAtX freeAtY freeW freeH begins ends tried aside] [k_Model g a o pasts length printed told state backX backY boxes u.1 bestFree bestTurned bestFirst bestSecond v spare past kept isKept text paper left top wide high original turn boxX boxY boxW boxH u.2.1 u.2.2.1 u.2.2.2.1 u.2.2.2.2 begins ends tried aside] none := by
  refine b_start RX11 (by decide) rfl (Nat.le_of_ble_eq_true rfl) rfl ?_
  intro p e s m args below meth c A ls Q hQ hx hb hr hlk hml hown hT hK hA hw hl
  have hl : lv_has ls 5 [(0, .ref (a o)), (1, .int i1), (2, .int i2)] := hl
  unfold f_X11_between at h
  refine lv_iconst (v := 0) hx hb dX11_between_0 (by decide) ?_
  refine lv_istore_n (lv' := [(3, .int (0 : Int32)), (0, .ref (a o)), (1, .int i1), (2, .int i2)]) hx hb dX11_between_1 rfl hl (by decide) rfl (fun ls hl => ?_)
  refine lv_iconst (v := 0) hx hb dX11_between_2 (by decide) ?_
  refine lv_istore (lv' := [(4, .int (0 : Int32)), (3, .int (0 : Int32)), (0, .ref (a o)), (1, .int i1), (2, .int i2)]) hx hb dX11_between_3 hl (by decide) rfl (fun ls hl => ?_)
  obtain ⟨k103_6, ek103_6, h⟩ := g_jn_nm h
  have hk103_6 : ∀ (x1 : Int32) (x2 : Int32) (f3 : Nat → Int32) (f4 : Nat → Int32) (f5 : Nat → Int32) (f6 : Nat → Int32) (H : Heap) (locs : List Loc) (ls : Array Slot), b_Wd D A s.heap H locs [k_Model g a o pasts length printed told state backX backY boxes x2 bestFree bestTurned bestFirst bestSecond v spare past kept isKept text paper left top wide high original turn boxX boxY boxW boxH f3 f4 f5 f6 begins ends tried aside] → lv_has ls 5 [(0, .ref (a o)), (1, .int i1), (2, .int i2), (3, .int x1)] → k103_6 x1 x2 f3 f4 f5 f6 = some u → W p l e (g_rm 3 72) s m args below meth c H locs 0 0 Q (F0 m 103 ls []) := by
    intro x1 x2 f3 f4 f5 f6 H locs ls hw hl h
    subst ek103_6
    dsimp only at h
    refine lv_aload_n hx hb dX11_between_103 rfl (lv_at hl 0 rfl) ?_
    refine lv_iload_n hx hb dX11_between_104 rfl (lv_at hl 1 rfl) ?_
    refine lv_iload_n hx hb dX11_between_105 rfl (lv_at hl 2 rfl) ?_
    refine lv_iload_n hx hb dX11_between_106 rfl (lv_at hl 3 rfl) ?_
    refine lv_aload_n hx hb dX11_between_107 rfl (lv_at hl 0 rfl) ?_
    obtain ⟨r8, er8, h⟩ := g_cl_some h
    refine b_callV hx hb hml hown hT hK hA hw mk_X11_210 (c_X11_fieldHeight l D g a o pasts length printed told state backX backY boxes x2 bestFree bestTurned bestFirst bestSecond v spare past kept isKept text paper left top wide high original turn boxX boxY boxW boxH f3 f4 f5 f6 begins ends tried aside r8 er8) [0] [] rfl (by decide) 0 0 rfl rfl rfl rfl hl.1 [.int x1, .int i2, .int i1, .ref (a o)] rfl (Nat.le_of_ble_eq_true rfl) ⟨Nat.le_of_ble_eq_true rfl, Nat.le_of_ble_eq_true rfl⟩ ⟨Nat.zero_le _, Nat.zero_le _⟩ dX11_between_108 (wb' := [k_Model g a o pasts length printed told state backX backY boxes x2 bestFree bestTurned bestFirst bestSecond v spare past kept isKept text paper left top wide high original turn boxX boxY boxW boxH f3 f4 f5 f6 begins ends tried aside]) rfl b_e0 1 rfl (by decide) (st2 := [.int r8, .int x1, .int i2, .int i1, .ref (a o)]) rfl (fun H locs hw => ?_)
    obtain ⟨r9, er9, h⟩ := g_cl_some h
    refine b_callV hx hb hml hown hT hK hA hw mk_X11_206 (c_X11_offers l D g a o pasts length printed told state backX backY boxes x2 bestFree bestTurned bestFirst bestSecond v spare past kept isKept text paper left top wide high original turn boxX boxY boxW boxH f3 f4 f5 f6 begins ends tried aside i1 i2 x1 r8 r9 er9) [0] [] rfl (by decide) 0 0 rfl rfl rfl rfl hl.1 [] rfl (Nat.le_of_ble_eq_true rfl) ⟨Nat.le_of_ble_eq_true rfl, Nat.le_of_ble_eq_true rfl⟩ ⟨Nat.zero_le _, Nat.zero_le _⟩ dX11_between_111 (wb' := [k_Model g a o pasts length printed told state backX backY boxes r9.1 bestFree bestTurned bestFirst bestSecond v spare past kept isKept text paper left top wide high original turn boxX boxY boxW boxH r9.2.1 r9.2.2.1 r9.2.2.2.1 r9.2.2.2.2 begins ends tried aside]) rfl b_e0 1 rfl (by decide) (st2 := []) rfl (fun H locs hw => ?_)
    obtain rfl := Option.some.inj h
    exact b_vret hQ hx hb hr hlk hw rfl dX11_between_114
  have hL5 : ∀ (n : Nat) (x10 : Int32) (x11 : Int32) (x12 : Int32) (f13 : Nat → Int32) (f14 : Nat → Int32) (f15 : Nat → Int32) (f16 : Nat → Int32) (H : Heap) (locs : List Loc) (ls : Array Slot), b_Wd D A s.heap H locs [k_Model g a o pasts length printed told state backX backY boxes x12 bestFree bestTurned bestFirst bestSecond v spare past kept isKept text paper left top wide high original turn boxX boxY boxW boxH f13 f14 f15 f16 begins ends tried aside] → lv_has ls 5 [(0, .ref (a o)), (1, .int i1), (2, .int i2), (3, .int x10), (4, .int x11)] → f_X11_between_L5 boxes v boxX boxY boxW boxH i1 i2 k103_6 n x10 x11 x12 f13 f14 f15 f16 = some u → W p l e (g_rm 3 72) s m args below meth c H locs 0 0 Q (F0 m 5 ls []) := by
    intro n
    induction n with
    | zero =>
      intro x10 x11 x12 f13 f14 f15 f16 H locs ls hw hl h
      cases (show none = some u from h)
    | succ n ih5 =>
      intro x10 x11 x12 f13 f14 f15 f16 H locs ls hw hl h
      rw [f_X11_between_L5] at h
      refine lv_iload hx hb dX11_between_5 (lv_at hl 4 rfl) ?_
      refine lv_aload_n hx hb dX11_between_7 rfl (lv_at hl 0 rfl) ?_
      refine b_get hx hb hT hK hown fl_X11_185 hw 0 0 rfl rfl (v := .int boxes) rfl dX11_between_8 ?_
      refine lv_icmp_ge (tgt := 103) hx hb dX11_between_11 (by decide) (fun hc11 => ?_) (fun hc11 => ?_)
      · rw [if_pos hc11] at h
        exact hk103_6 x10 x12 f13 f14 f15 f16 _ _ _ hw (lv_sub hl [0, 1, 2, 3] rfl) h
      · rw [if_neg hc11] at h
        refine lv_aload_n hx hb dX11_between_14 rfl (lv_at hl 0 rfl) ?_
        refine b_get hx hb hT hK hown fl_X11_50 hw 0 0 rfl rfl (v := .ref (a (o+14))) rfl dX11_between_15 ?_
        refine lv_iload hx hb dX11_between_18 (lv_at hl 4 rfl) ?_
        obtain ⟨x17, ex17, hix17, h⟩ := g_rd_some h
        refine b_iald hx hb hK hw 0 14 rfl (f := boxX) rfl hix17 ex17 dX11_between_20 ?_
        refine lv_iload_n hx hb dX11_between_21 rfl (lv_at hl 2 rfl) ?_
        obtain ⟨j97_23, ej97_23, h⟩ := g_jn_nm h
        have hj97_23 : ∀ (x18 : Int32) (x19 : Int32) (f20 : Nat → Int32) (f21 : Nat → Int32) (f22 : Nat → Int32) (f23 : Nat → Int32) (H : Heap) (locs : List Loc) (ls : Array Slot), b_Wd D A s.heap H locs [k_Model g a o pasts length printed told state backX backY boxes x19 bestFree bestTurned bestFirst bestSecond v spare past kept isKept text paper left top wide high original turn boxX boxY boxW boxH f20 f21 f22 f23 begins ends tried aside] → lv_has ls 5 [(0, .ref (a o)), (1, .int i1), (2, .int i2), (3, .int x18), (4, .int x11)] → j97_23 x18 x19 f20 f21 f22 f23 = some u → W p l e (g_rm 3 72) s m args below meth c H locs 0 0 Q (F0 m 97 ls []) := by
          intro x18 x19 f20 f21 f22 f23 H locs ls hw hl h
          subst ej97_23
          dsimp only at h
          obtain ⟨x25, ex25, h⟩ := g_bd_nm h
          refine lv_iinc (v := x25) (lv' := [(4, .int x25), (0, .ref (a o)), (1, .int i1), (2, .int i2), (3, .int x18)]) hx hb dX11_between_97 hl (k := 4) rfl (by rw [ex25]; rfl) (by decide) rfl (fun ls hl => ?_)
          refine lv_goto (tgt := 5) hx hb dX11_between_100 (by decide) ?_
          exact ih5 x18 x25 x19 f20 f21 f22 f23 _ _ _ hw (lv_sub hl [1, 2, 3, 4, 0] rfl) h
        refine lv_icmp_ge (tgt := 97) hx hb dX11_between_22 (by decide) (fun hc22 => ?_) (fun hc22 => ?_)
        · rw [if_pos hc22] at h
          exact hj97_23 x10 x12 f13 f14 f15 f16 _ _ _ hw (lv_sub hl [0, 1, 2, 3, 4] rfl) h
        · rw [if_neg hc22] at h
          refine lv_aload_n hx hb dX11_between_25 rfl (lv_at hl 0 rfl) ?_
          refine b_get hx hb hT hK hown fl_X11_50 hw 0 0 rfl rfl (v := .ref (a (o+14))) rfl dX11_between_26 ?_
          refine lv_iload hx hb dX11_between_29 (lv_at hl 4 rfl) ?_
          obtain ⟨x26, ex26, hix26, h⟩ := g_rd_some h
          refine b_iald hx hb hK hw 0 14 rfl (f := boxX) rfl hix26 ex26 dX11_between_31 ?_
          refine lv_aload_n hx hb dX11_between_32 rfl (lv_at hl 0 rfl) ?_
          refine b_get hx hb hT hK hown fl_X11_56 hw 0 0 rfl rfl (v := .ref (a (o+16))) rfl dX11_between_33 ?_
          refine lv_iload hx hb dX11_between_36 (lv_at hl 4 rfl) ?_
          obtain ⟨x27, ex27, hix27, h⟩ := g_rd_some h
          refine b_iald hx hb hK hw 0 16 rfl (f := boxW) rfl hix27 ex27 dX11_between_38 ?_
          refine lv_iadd hx hb dX11_between_39 ?_
          refine lv_iload_n hx hb dX11_between_40 rfl (lv_at hl 1 rfl) ?_
          refine lv_icmp_le (tgt := 97) hx hb dX11_between_41 (by decide) (fun hc41 => ?_) (fun hc41 => ?_)
          · rw [if_pos hc41] at h
            exact hj97_23 x10 x12 f13 f14 f15 f16 _ _ _ hw (lv_sub hl [0, 1, 2, 3, 4] rfl) h
          · rw [if_neg hc41] at h
            refine lv_aload_n hx hb dX11_between_44 rfl (lv_at hl 0 rfl) ?_
            refine lv_iload_n hx hb dX11_between_45 rfl (lv_at hl 1 rfl) ?_
            refine lv_iload_n hx hb dX11_between_46 rfl (lv_at hl 2 rfl) ?_
            refine lv_iload_n hx hb dX11_between_47 rfl (lv_at hl 3 rfl) ?_
            refine lv_aload_n hx hb dX11_between_48 rfl (lv_at hl 0 rfl) ?_
            refine b_get hx hb hT hK hown fl_X11_53 hw 0 0 rfl rfl (v := .ref (a (o+15))) rfl dX11_between_49 ?_
            refine lv_iload hx hb dX11_between_52 (lv_at hl 4 rfl) ?_
            obtain ⟨x28, ex28, hix28, h⟩ := g_rd_some h
            refine b_iald hx hb hK hw 0 15 rfl (f := boxY) rfl hix28 ex28 dX11_between_54 ?_
            obtain ⟨r29, er29, h⟩ := g_cl_some h
            refine b_callV hx hb hml hown hT hK hA hw mk_X11_206 (c_X11_offers l D g a o pasts length printed told state backX backY boxes x12 bestFree bestTurned bestFirst bestSecond v spare past kept isKept text paper left top wide high original turn boxX boxY boxW boxH f13 f14 f15 f16 begins ends tried aside i1 i2 x10 x28 r29 er29) [0] [] rfl (by decide) 0 0 rfl rfl rfl rfl hl.1 [] rfl (Nat.le_of_ble_eq_true rfl) ⟨Nat.le_of_ble_eq_true rfl, Nat.le_of_ble_eq_true rfl⟩ ⟨Nat.zero_le _, Nat.zero_le _⟩ dX11_between_55 (wb' := [k_Model g a o pasts length printed told state backX backY boxes r29.1 bestFree bestTurned bestFirst bestSecond v spare past kept isKept text paper left top wide high original turn boxX boxY boxW boxH r29.2.1 r29.2.2.1 r29.2.2.2.1 r29.2.2.2.2 begins ends tried aside]) rfl b_e0 1 rfl (by decide) (st2 := []) rfl (fun H locs hw => ?_)
            refine lv_aload_n hx hb dX11_between_58 rfl (lv_at hl 0 rfl) ?_
            refine b_get hx hb hT hK hown fl_X11_53 hw 0 0 rfl rfl (v := .ref (a (o+15))) rfl dX11_between_59 ?_
            refine lv_iload hx hb dX11_between_62 (lv_at hl 4 rfl) ?_
            obtain ⟨x30, ex30, hix30, h⟩ := g_rd_some h
            refine b_iald hx hb hK hw 0 15 rfl (f := boxY) rfl hix30 ex30 dX11_between_64 ?_
            refine lv_aload_n hx hb dX11_between_65 rfl (lv_at hl 0 rfl) ?_
            refine b_get hx hb hT hK hown fl_X11_59 hw 0 0 rfl rfl (v := .ref (a (o+17))) rfl dX11_between_66 ?_
            refine lv_iload hx hb dX11_between_69 (lv_at hl 4 rfl) ?_
            obtain ⟨x31, ex31, hix31, h⟩ := g_rd_some h
            refine b_iald hx hb hK hw 0 17 rfl (f := boxH) rfl hix31 ex31 dX11_between_71 ?_
            refine lv_iadd hx hb dX11_between_72 ?_
            refine lv_iload_n hx hb dX11_between_73 rfl (lv_at hl 3 rfl) ?_
            obtain ⟨j96_32, ej96_32, h⟩ := g_jn_nm h
            have hj96_32 : ∀ (x32 : Int32) (H : Heap) (locs : List Loc) (ls : Array Slot), b_Wd D A s.heap H locs [k_Model g a o pasts length printed told state backX backY boxes r29.1 bestFree bestTurned bestFirst bestSecond v spare past kept isKept text paper left top wide high original turn boxX boxY boxW boxH r29.2.1 r29.2.2.1 r29.2.2.2.1 r29.2.2.2.2 begins ends tried aside] → lv_has ls 5 [(0, .ref (a o)), (1, .int i1), (2, .int i2), (4, .int x11)] → j96_32 x32 = some u → W p l e (g_rm 3 72) s m args below meth c H locs 0 0 Q (F0 m 96 ls [.int x32]) := by
              intro x32 H locs ls hw hl h
              subst ej96_32
              dsimp only at h
              refine lv_istore_n (lv' := [(3, .int x32), (0, .ref (a o)), (1, .int i1), (2, .int i2), (4, .int x11)]) hx hb dX11_between_96 rfl hl (by decide) rfl (fun ls hl => ?_)
              exact hj97_23 x32 r29.1 r29.2.1 r29.2.2.1 r29.2.2.2.1 r29.2.2.2.2 _ _ _ hw (lv_sub hl [1, 2, 3, 0, 4] rfl) h
            refine lv_icmp_le (tgt := 95) hx hb dX11_between_74 (by decide) (fun hc74 => ?_) (fun hc74 => ?_)
            · rw [if_pos hc74] at h
              refine lv_iload_n hx hb dX11_between_95 rfl (lv_at hl 3 rfl) ?_
              exact hj96_32 x10 _ _ _ hw (lv_sub hl [0, 1, 2, 4] rfl) h
            · rw [if_neg hc74] at h
              refine lv_aload_n hx hb dX11_between_77 rfl (lv_at hl 0 rfl) ?_
              refine b_get hx hb hT hK hown fl_X11_53 hw 0 0 rfl rfl (v := .ref (a (o+15))) rfl dX11_between_78 ?_
              refine lv_iload hx hb dX11_between_81 (lv_at hl 4 rfl) ?_
              obtain ⟨x34, ex34, hix34, h⟩ := g_rd_some h
              refine b_iald hx hb hK hw 0 15 rfl (f := boxY) rfl hix34 ex34 dX11_between_83 ?_
              refine lv_aload_n hx hb dX11_between_84 rfl (lv_at hl 0 rfl) ?_
              refine b_get hx hb hT hK hown fl_X11_59 hw 0 0 rfl rfl (v := .ref (a (o+17))) rfl dX11_between_85 ?_
              refine lv_iload hx hb dX11_between_88 (lv_at hl 4 rfl) ?_
              obtain ⟨x35, ex35, hix35, h⟩ := g_rd_some h
              refine b_iald hx hb hK hw 0 17 rfl (f := boxH) rfl hix35 ex35 dX11_between_90 ?_
              refine lv_iadd hx hb dX11_between_91 ?_
              refine lv_goto (tgt := 96) hx hb dX11_between_92 (by decide) ?_
              exact hj96_32 (x34 + x35) _ _ _ hw (lv_sub hl [0, 1, 2, 4] rfl) h
  exact hL5 g_fuel (0 : Int32) (0 : Int32) frees freeAtX freeAtY freeW freeH _ _ _ hw (lv_sub hl [2, 3, 4, 1, 0] rfl) h
