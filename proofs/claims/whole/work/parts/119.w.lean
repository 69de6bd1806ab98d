set_option maxRecDepth 100000 in
set_option maxHeartbeats 4000000 in
theorem c_X7_addSorted (l : Launch) (D : va_G) (g : Nat → ClassId) (a : Nat → Nat) (o : Nat) (spW : Int32) (spH : Int32) (fr : (Nat → Int64)) (codes : (Nat → Int32)) (counts : (Nat → Int32)) (i1 : Int32) (i2 : Int32) (u : (Nat → Int32) × (Nat → Int32)) (h : f_X7_addSorted codes counts i1 i2 = some u) : b_Ct l yX7_addSorted cX7_addSorted 5 none 0 0 D g [.ref (a o), .int i1, .int i2] [k_Space g a o spW spH fr codes counts] [k_Space g a o spW spH fr u.1 u.2] none := by
  refine b_start RX7 (by decide) rfl (Nat.le_of_ble_eq_true rfl) rfl ?_
  intro p e s m args below meth c A ls Q hQ hx hb hr hlk hml hown hT hK hA hw hl
  have hl : lv_has ls 5 [(0, .ref (a o)), (1, .int i1), (2, .int i2)] := hl
  unfold f_X7_addSorted at h
  refine lv_iload_n hx hb dX7_addSorted_0 rfl (lv_at hl 1 rfl) ?_
  refine lv_sipush (v := 349) hx hb dX7_addSorted_1 (by decide) ?_
  refine lv_imul hx hb dX7_addSorted_4 ?_
  obtain ⟨x1, ex1, h⟩ := g_bd_nm h
  refine g_topi ex1 ?_
  refine lv_istore_n (lv' := [(3, .int x1), (0, .ref (a o)), (1, .int i1), (2, .int i2)]) hx hb dX7_addSorted_5 rfl hl (by decide) rfl (fun ls hl => ?_)
  refine lv_aload_n hx hb dX7_addSorted_6 rfl (lv_at hl 1 rfl) ?_
  refine b_get hx hb hT hK hown fl_X7_19 hw 0 0 rfl rfl (v := .ref (a (o+3))) rfl dX7_addSorted_7 ?_
  refine lv_iload_n hx hb dX7_addSorted_10 rfl (lv_at hl 2 rfl) ?_
  obtain ⟨x2, ex2, hix2, h⟩ := g_rd_some h
  refine b_iald hx hb hK hw 0 3 rfl (f := counts) rfl hix2 ex2 dX7_addSorted_11 ?_
  refine lv_istore (lv' := [(4, .int x2), (3, .int x1), (0, .ref (a o)), (1, .int i1), (2, .int i2)]) hx hb dX7_addSorted_12 hl (by decide) rfl (fun ls hl => ?_)
  refine lv_iload hx hb dX7_addSorted_14 (lv_at hl 0 rfl) ?_
  refine lv_sipush (v := 349) hx hb dX7_addSorted_16 (by decide) ?_
  refine lv_icmp_lt (tgt := 23) hx hb dX7_addSorted_19 (by decide) (fun hc19 => ?_) (fun hc19 => ?_)
  · rw [if_pos hc19] at h
    obtain ⟨k69_4, ek69_4, h⟩ := g_jn_nm h
    have hk69_4 : ∀ (x3 : Int32) (f4 : Nat → Int32) (H : Heap) (locs : List Loc) (ls : Array Slot), b_Wd D A s.heap H locs [k_Space g a o spW spH fr f4 counts] → lv_has ls 5 [(0, .ref (a o)), (1, .int i1), (2, .int i2), (3, .int x1), (4, .int x3)] → k69_4 x3 f4 = some u → W p l e (g_rm 0 0) s m args below meth c H locs 0 0 Q (F0 m 69 ls []) := by
      intro x3 f4 H locs ls hw hl h
      subst ek69_4
      dsimp only at h
      refine lv_aload_n hx hb dX7_addSorted_69 rfl (lv_at hl 0 rfl) ?_
      refine b_get hx hb hT hK hown fl_X7_15 hw 0 0 rfl rfl (v := .ref (a (o+2))) rfl dX7_addSorted_70 ?_
      refine lv_iload_n hx hb dX7_addSorted_73 rfl (lv_at hl 3 rfl) ?_
      refine lv_iload hx hb dX7_addSorted_74 (lv_at hl 4 rfl) ?_
      refine lv_iadd hx hb dX7_addSorted_76 ?_
      refine lv_iload_n hx hb dX7_addSorted_77 rfl (lv_at hl 2 rfl) ?_
      obtain ⟨f6, ef6, hif6, h⟩ := g_wr_some h
      refine b_iast hx hb hK hw 0 2 rfl (f := f4) rfl hif6 ef6 rfl (wb' := [k_Space g a o spW spH fr f6 counts]) rfl dX7_addSorted_78 (fun H locs hw => ?_)
      refine lv_aload_n hx hb dX7_addSorted_79 rfl (lv_at hl 0 rfl) ?_
      refine b_get hx hb hT hK hown fl_X7_19 hw 0 0 rfl rfl (v := .ref (a (o+3))) rfl dX7_addSorted_80 ?_
      refine lv_iload_n hx hb dX7_addSorted_83 rfl (lv_at hl 1 rfl) ?_
      refine lv_dup2_11 hx hb dX7_addSorted_84 rfl rfl ?_
      obtain ⟨x7, ex7, hix7, h⟩ := g_rd_some h
      refine b_iald hx hb hK hw 0 3 rfl (f := counts) rfl hix7 ex7 dX7_addSorted_85 ?_
      refine lv_iconst (v := 1) hx hb dX7_addSorted_86 (by decide) ?_
      refine lv_iadd hx hb dX7_addSorted_87 ?_
      obtain ⟨x8, ex8, h⟩ := g_bd_nm h
      refine g_topi ex8 ?_
      obtain ⟨f9, ef9, hif9, h⟩ := g_wr_some h
      refine b_iast hx hb hK hw 0 3 rfl (f := counts) rfl hif9 ef9 rfl (wb' := [k_Space g a o spW spH fr f6 f9]) rfl dX7_addSorted_88 (fun H locs hw => ?_)
      obtain rfl := Option.some.inj h
      exact b_vret hQ hx hb hr hlk hw rfl dX7_addSorted_89
    have hL23 : ∀ (n : Nat) (x10 : Int32) (f11 : Nat → Int32) (H : Heap) (locs : List Loc) (ls : Array Slot), b_Wd D A s.heap H locs [k_Space g a o spW spH fr f11 counts] → lv_has ls 5 [(0, .ref (a o)), (1, .int i1), (2, .int i2), (3, .int x1), (4, .int x10)] → f_X7_addSorted_L23 i2 x1 k69_4 n x10 f11 = some u → W p l e (g_rm 0 0) s m args below meth c H locs 0 0 Q (F0 m 23 ls []) := by
      intro n
      induction n with
      | zero =>
        intro x10 f11 H locs ls hw hl h
        cases (show none = some u from h)
      | succ n ih23 =>
        intro x10 f11 H locs ls hw hl h
        rw [f_X7_addSorted_L23] at h
        refine lv_iload hx hb dX7_addSorted_23 (lv_at hl 4 rfl) ?_
        refine lv_if_le (tgt := 69) hx hb dX7_addSorted_25 (by decide) (fun hc25 => ?_) (fun hc25 => ?_)
        · rw [if_pos hc25] at h
          exact hk69_4 x10 f11 _ _ _ hw (lv_sub hl [0, 1, 2, 3, 4] rfl) h
        · rw [if_neg hc25] at h
          refine lv_aload_n hx hb dX7_addSorted_28 rfl (lv_at hl 0 rfl) ?_
          refine b_get hx hb hT hK hown fl_X7_15 hw 0 0 rfl rfl (v := .ref (a (o+2))) rfl dX7_addSorted_29 ?_
          refine lv_iload_n hx hb dX7_addSorted_32 rfl (lv_at hl 3 rfl) ?_
          refine lv_iload hx hb dX7_addSorted_33 (lv_at hl 4 rfl) ?_
          refine lv_iadd hx hb dX7_addSorted_35 ?_
          refine lv_iconst (v := 1) hx hb dX7_addSorted_36 (by decide) ?_
          refine lv_isub hx hb dX7_addSorted_37 ?_
          obtain ⟨x12, ex12, hix12, h⟩ := g_rd_some h
          refine b_iald hx hb hK hw 0 2 rfl (f := f11) rfl hix12 ex12 dX7_addSorted_38 ?_
          refine lv_iload_n hx hb dX7_addSorted_39 rfl (lv_at hl 2 rfl) ?_
          refine lv_icmp_le (tgt := 69) hx hb dX7_addSorted_40 (by decide) (fun hc40 => ?_) (fun hc40 => ?_)
          · rw [if_pos hc40] at h
            exact hk69_4 x10 f11 _ _ _ hw (lv_sub hl [0, 1, 2, 3, 4] rfl) h
          · rw [if_neg hc40] at h
            refine lv_aload_n hx hb dX7_addSorted_43 rfl (lv_at hl 0 rfl) ?_
            refine b_get hx hb hT hK hown fl_X7_15 hw 0 0 rfl rfl (v := .ref (a (o+2))) rfl dX7_addSorted_44 ?_
            refine lv_iload_n hx hb dX7_addSorted_47 rfl (lv_at hl 3 rfl) ?_
            refine lv_iload hx hb dX7_addSorted_48 (lv_at hl 4 rfl) ?_
            refine lv_iadd hx hb dX7_addSorted_50 ?_
            refine lv_aload_n hx hb dX7_addSorted_51 rfl (lv_at hl 0 rfl) ?_
            refine b_get hx hb hT hK hown fl_X7_15 hw 0 0 rfl rfl (v := .ref (a (o+2))) rfl dX7_addSorted_52 ?_
            refine lv_iload_n hx hb dX7_addSorted_55 rfl (lv_at hl 3 rfl) ?_
            refine lv_iload hx hb dX7_addSorted_56 (lv_at hl 4 rfl) ?_
            refine lv_iadd hx hb dX7_addSorted_58 ?_
            refine lv_iconst (v := 1) hx hb dX7_addSorted_59 (by decide) ?_
            refine lv_isub hx hb dX7_addSorted_60 ?_
            obtain ⟨x13, ex13, hix13, h⟩ := g_rd_some h
            refine b_iald hx hb hK hw 0 2 rfl (f := f11) rfl hix13 ex13 dX7_addSorted_61 ?_
            obtain ⟨f14, ef14, hif14, h⟩ := g_wr_some h
            refine b_iast hx hb hK hw 0 2 rfl (f := f11) rfl hif14 ef14 rfl (wb' := [k_Space g a o spW spH fr f14 counts]) rfl dX7_addSorted_62 (fun H locs hw => ?_)
            obtain ⟨x15, ex15, h⟩ := g_bd_nm h
            refine lv_iinc (v := x15) (lv' := [(4, .int x15), (0, .ref (a o)), (1, .int i1), (2, .int i2), (3, .int x1)]) hx hb dX7_addSorted_63 hl (k := 4) rfl (by rw [ex15]; rfl) (by decide) rfl (fun ls hl => ?_)
            refine lv_goto (tgt := 23) hx hb dX7_addSorted_66 (by decide) ?_
            exact ih23 x15 f14 _ _ _ hw (lv_sub hl [1, 2, 3, 4, 0] rfl) h
    exact hL23 g_fuel x2 codes _ _ _ hw (lv_sub hl [2, 3, 4, 1, 0] rfl) h
  · rw [if_neg hc19] at h
    obtain rfl := Option.some.inj h
    exact b_vret hQ hx hb hr hlk hw rfl dX7_addSorted_22
set_option maxRecDepth 100000 in
set_option maxHeartbeats 4000000 in
theorem c_X7_collectRuns (l : Launch) (D : va_G) (g : Nat → ClassId) (a : Nat → Nat) (o : Nat) (spW : Int32) (spH : Int32) (fr : (Nat → Int64)) (codes : (Nat → Int32)) (counts : (Nat → Int32)) (i1 : Int32) (i2 : Int32) (i3 : Int32) (i4 : Int64) (i5 : Int64) (i6 : Int64) (u : (Nat → Int32) × (Nat → Int32)) (h : f_X7_collectRuns codes counts i1 i2 i3 i4 i5 i6 = some u) : b_Ct l yX7_collectRuns cX7_collectRuns 17 none 1 24 D g [.ref (a o), .int i1, .int i2, .int i3, .long i4, .long i5, .long i6] [k_Space g a o spW spH fr codes counts] [k_Space g a o spW spH fr u.1 u.2] none := by
  refine b_start RX7 (by decide) rfl (Nat.le_of_ble_eq_true rfl) rfl ?_
  intro p e s m args below meth c A ls Q hQ hx hb hr hlk hml hown hT hK hA hw hl
  have hl : lv_has ls 17 [(0, .ref (a o)), (1, .int i1), (2, .int i2), (3, .int i3), (4, .long i4), (6, .long i5), (8, .long i6)] := hl
  unfold f_X7_collectRuns at h
  refine lv_lload hx hb dX7_collectRuns_0 (lv_at hl 4 rfl) ?_
  refine lv_lstore (lv' := [(10, .long i4), (0, .ref (a o)), (1, .int i1), (2, .int i2), (3, .int i3), (4, .long i4), (6, .long i5), (8, .long i6)]) hx hb dX7_collectRuns_2 hl (by decide) rfl (fun ls hl => ?_)
  refine lv_iconst (v := 0) hx hb dX7_collectRuns_4 (by decide) ?_
  refine lv_istore (lv' := [(12, .int (0 : Int32)), (10, .long i4), (0, .ref (a o)), (1, .int i1), (2, .int i2), (3, .int i3), (4, .long i4), (6, .long i5), (8, .long i6)]) hx hb dX7_collectRuns_5 hl (by decide) rfl (fun ls hl => ?_)
  have hL7 : ∀ (n : Nat) (y1 : Int64) (x2 : Int32) (f3 : Nat → Int32) (f4 : Nat → Int32) (H : Heap) (locs : List Loc) (ls : Array Slot), b_Wd D A s.heap H locs [k_Space g a o spW spH fr f3 f4] → lv_has ls 17 [(0, .ref (a o)), (1, .int i1), (2, .int i2), (3, .int i3), (6, .long i5), (8, .long i6), (10, .long y1), (12, .int x2)] → f_X7_collectRuns_L7 i1 i2 i3 i5 i6 n y1 x2 f3 f4 = some u → W p l e (g_rm 1 24) s m args below meth c H locs 0 0 Q (F0 m 7 ls []) := by
    intro n
    induction n with
    | zero =>
      intro y1 x2 f3 f4 H locs ls hw hl h
      cases (show none = some u from h)
    | succ n ih7 =>
      intro y1 x2 f3 f4 H locs ls hw hl h
      rw [f_X7_collectRuns_L7] at h
      refine lv_iload hx hb dX7_collectRuns_7 (lv_at hl 7 rfl) ?_
      refine lv_bipush (v := 35) hx hb dX7_collectRuns_9 (by decide) ?_
      refine lv_icmp_ge (tgt := 102) hx hb dX7_collectRuns_11 (by decide) (fun hc11 => ?_) (fun hc11 => ?_)
      · rw [if_pos hc11] at h
        obtain rfl := Option.some.inj h
        exact b_vret hQ hx hb hr hlk hw rfl dX7_collectRuns_102
      · rw [if_neg hc11] at h
        refine lv_lload hx hb dX7_collectRuns_14 (lv_at hl 6 rfl) ?_
        refine lv_lconst (v := 0) hx hb dX7_collectRuns_16 (by decide) ?_
        refine W.lcmp hx hb dX7_collectRuns_17 ?_
        refine lv_if_eq (tgt := 102) hx hb dX7_collectRuns_18 (by decide) (fun hc18 => ?_) (fun hc18 => ?_)
        · rw [if_pos hc18] at h
          obtain rfl := Option.some.inj h
          exact b_vret hQ hx hb hr hlk hw rfl dX7_collectRuns_102
        · rw [if_neg hc18] at h
          refine lv_lload hx hb dX7_collectRuns_21 (lv_at hl 6 rfl) ?_
          refine lv_lload hx hb dX7_collectRuns_23 (lv_at hl 6 rfl) ?_
          refine lv_lneg hx hb dX7_collectRuns_25 ?_
          refine lv_land hx hb dX7_collectRuns_26 ?_
          obtain ⟨y5, ey5, h⟩ := g_bd_nm h
          refine g_topl ey5 ?_
          refine lv_lstore (lv' := [(13, .long y5), (0, .ref (a o)), (1, .int i1), (2, .int i2), (3, .int i3), (6, .long i5), (8, .long i6), (10, .long y1), (12, .int x2)]) hx hb dX7_collectRuns_27 hl (by decide) rfl (fun ls hl => ?_)
          refine lv_lload hx hb dX7_collectRuns_29 (lv_at hl 7 rfl) ?_
          refine lv_lload hx hb dX7_collectRuns_31 (lv_at hl 7 rfl) ?_
          refine lv_lload hx hb dX7_collectRuns_33 (lv_at hl 0 rfl) ?_
          refine lv_ladd hx hb dX7_collectRuns_35 ?_
          refine lv_ldc2 hx hb hown (hT _ kc_X7_44) dX7_collectRuns_36 ?_
          refine lv_lxor hx hb dX7_collectRuns_39 ?_
          refine lv_land hx hb dX7_collectRuns_40 ?_
          obtain ⟨y6, ey6, h⟩ := g_bd_nm h
          refine g_topl ey6 ?_
          refine lv_lstore (lv' := [(15, .long y6), (13, .long y5), (0, .ref (a o)), (1, .int i1), (2, .int i2), (3, .int i3), (6, .long i5), (8, .long i6), (10, .long y1), (12, .int x2)]) hx hb dX7_collectRuns_41 hl (by decide) rfl (fun ls hl => ?_)
          refine lv_lload hx hb dX7_collectRuns_43 (lv_at hl 0 rfl) ?_
          refine lv_lload hx hb dX7_collectRuns_45 (lv_at hl 6 rfl) ?_
          refine lv_land hx hb dX7_collectRuns_47 ?_
          refine lv_lconst (v := 0) hx hb dX7_collectRuns_48 (by decide) ?_
          refine W.lcmp hx hb dX7_collectRuns_49 ?_
          obtain ⟨j85_8, ej85_8, h⟩ := g_jn_nm h
          have hj85_8 : ∀ (f7 : Nat → Int32) (f8 : Nat → Int32) (H : Heap) (locs : List Loc) (ls : Array Slot), b_Wd D A s.heap H locs [k_Space g a o spW spH fr f7 f8] → lv_has ls 17 [(0, .ref (a o)), (1, .int i1), (2, .int i2), (3, .int i3), (6, .long i5), (8, .long i6), (10, .long y1), (12, .int x2), (15, .long y6)] → j85_8 f7 f8 = some u → W p l e (g_rm 1 24) s m args below meth c H locs 0 0 Q (F0 m 85 ls []) := by
            intro f7 f8 H locs ls hw hl h
            subst ej85_8
            dsimp only at h
            refine lv_lload hx hb dX7_collectRuns_85 (lv_at hl 6 rfl) ?_
            refine lv_lload hx hb dX7_collectRuns_87 (lv_at hl 8 rfl) ?_
            refine lv_ldc2 hx hb hown (hT _ kc_X7_44) dX7_collectRuns_89 ?_
            refine lv_lxor hx hb dX7_collectRuns_92 ?_
            refine lv_land hx hb dX7_collectRuns_93 ?_
            obtain ⟨y10, ey10, h⟩ := g_bd_nm h
            refine g_topl ey10 ?_
            refine lv_lstore (lv' := [(10, .long y10), (0, .ref (a o)), (1, .int i1), (2, .int i2), (3, .int i3), (6, .long i5), (8, .long i6), (12, .int x2), (15, .long y6)]) hx hb dX7_collectRuns_94 hl (by decide) rfl (fun ls hl => ?_)
            obtain ⟨x11, ex11, h⟩ := g_bd_nm h
            refine lv_iinc (v := x11) (lv' := [(12, .int x11), (10, .long y10), (0, .ref (a o)), (1, .int i1), (2, .int i2), (3, .int i3), (6, .long i5), (8, .long i6), (15, .long y6)]) hx hb dX7_collectRuns_96 hl (k := 7) rfl (by rw [ex11]; rfl) (by decide) rfl (fun ls hl => ?_)
            refine lv_goto (tgt := 7) hx hb dX7_collectRuns_99 (by decide) ?_
            exact ih7 y10 x11 f7 f8 _ _ _ hw (lv_sub hl [2, 3, 4, 5, 6, 7, 1, 0] rfl) h
          refine lv_if_eq (tgt := 85) hx hb dX7_collectRuns_50 (by decide) (fun hc50 => ?_) (fun hc50 => ?_)
          · rw [if_pos hc50] at h
            exact hj85_8 f3 f4 _ _ _ hw (lv_sub hl [2, 3, 4, 5, 6, 7, 8, 9, 0] rfl) h
          · rw [if_neg hc50] at h
            refine lv_lload hx hb dX7_collectRuns_53 (lv_at hl 0 rfl) ?_
            refine lv_lload hx hb dX7_collectRuns_55 (lv_at hl 7 rfl) ?_
            refine lv_land hx hb dX7_collectRuns_57 ?_
            refine lv_lconst (v := 0) hx hb dX7_collectRuns_58 (by decide) ?_
            refine W.lcmp hx hb dX7_collectRuns_59 ?_
            refine lv_if_eq (tgt := 85) hx hb dX7_collectRuns_60 (by decide) (fun hc60 => ?_) (fun hc60 => ?_)
            · rw [if_pos hc60] at h
              exact hj85_8 f3 f4 _ _ _ hw (lv_sub hl [2, 3, 4, 5, 6, 7, 8, 9, 0] rfl) h
            · rw [if_neg hc60] at h
              refine lv_aload_n hx hb dX7_collectRuns_63 rfl (lv_at hl 2 rfl) ?_
              refine lv_iload_n hx hb dX7_collectRuns_64 rfl (lv_at hl 3 rfl) ?_
              refine lv_lload hx hb dX7_collectRuns_65 (lv_at hl 1 rfl) ?_
              refine lv_lconst (v := 1) hx hb dX7_collectRuns_67 (by decide) ?_
              refine lv_lsub hx hb dX7_collectRuns_68 ?_
              refine b_callS hx hb hml hown hT hK hA hw mk_X7_50 (c_J13_bitCount_95d88 l D g (y5 - (1 : Int64))) [] [0] rfl (by decide) rfl hl.1 [.int i1, .ref (a o)] rfl (Nat.le_of_ble_eq_true rfl) ⟨Nat.le_of_ble_eq_true rfl, Nat.le_of_ble_eq_true rfl⟩ ⟨Nat.zero_le _, Nat.zero_le _⟩ dX7_collectRuns_69 (wb' := [k_Space g a o spW spH fr f3 f4]) rfl (b_e1 rfl b_e0) 1 rfl (by decide) (st2 := [.int (f_J13_bitCount_95d88 (y5 - (1 : Int64))), .int i1, .ref (a o)]) rfl (fun H locs hw => ?_)
              refine lv_iload_n hx hb dX7_collectRuns_72 rfl (lv_at hl 4 rfl) ?_
              refine lv_lload hx hb dX7_collectRuns_73 (lv_at hl 0 rfl) ?_
              refine b_callS hx hb hml hown hT hK hA hw mk_X7_50 (c_J13_bitCount_95d88 l D g y6) [] [0] rfl (by decide) rfl hl.1 [.int i2, .int (f_J13_bitCount_95d88 (y5 - (1 : Int64))), .int i1, .ref (a o)] rfl (Nat.le_of_ble_eq_true rfl) ⟨Nat.le_of_ble_eq_true rfl, Nat.le_of_ble_eq_true rfl⟩ ⟨Nat.zero_le _, Nat.zero_le _⟩ dX7_collectRuns_75 (wb' := [k_Space g a o spW spH fr f3 f4]) rfl (b_e1 rfl b_e0) 1 rfl (by decide) (st2 := [.int (f_J13_bitCount_95d88 y6), .int i2, .int (f_J13_bitCount_95d88 (y5 - (1 : Int64))), .int i1, .ref (a o)]) rfl (fun H locs hw => ?_)
              refine lv_iload_n hx hb dX7_collectRuns_78 rfl (lv_at hl 5 rfl) ?_
              refine b_callS hx hb hml hown hT hK hA hw mk_X7_56 (c_X7_code l D g (f_J13_bitCount_95d88 (y5 - (1 : Int64))) i2 (f_J13_bitCount_95d88 y6) i3) [] [0] rfl (by decide) rfl hl.1 [.int i1, .ref (a o)] rfl (Nat.le_of_ble_eq_true rfl) ⟨Nat.le_of_ble_eq_true rfl, Nat.le_of_ble_eq_true rfl⟩ ⟨Nat.zero_le _, Nat.zero_le _⟩ dX7_collectRuns_79 (wb' := [k_Space g a o spW spH fr f3 f4]) rfl (b_e1 rfl b_e0) 1 rfl (by decide) (st2 := [.int (f_X7_code (f_J13_bitCount_95d88 (y5 - (1 : Int64))) i2 (f_J13_bitCount_95d88 y6) i3), .int i1, .ref (a o)]) rfl (fun H locs hw => ?_)
              obtain ⟨r12, er12, h⟩ := g_cl_some h
              refine b_callV hx hb hml hown hT hK hA hw mk_X7_60 (c_X7_addSorted l D g a o spW spH fr f3 f4 i1 (f_X7_code (f_J13_bitCount_95d88 (y5 - (1 : Int64))) i2 (f_J13_bitCount_95d88 y6) i3) r12 er12) [0] [] rfl (by decide) 0 0 rfl rfl rfl rfl hl.1 [] rfl (Nat.le_of_ble_eq_true rfl) ⟨Nat.le_of_ble_eq_true rfl, Nat.le_of_ble_eq_true rfl⟩ ⟨Nat.zero_le _, Nat.zero_le _⟩ dX7_collectRuns_82 (wb' := [k_Space g a o spW spH fr r12.1 r12.2]) rfl b_e0 1 rfl (by decide) (st2 := []) rfl (fun H locs hw => ?_)
              exact hj85_8 r12.1 r12.2 _ _ _ hw (lv_sub hl [2, 3, 4, 5, 6, 7, 8, 9, 0] rfl) h
  exact hL7 g_fuel i4 (0 : Int32) codes counts _ _ _ hw (lv_sub hl [2, 3, 4, 5, 7, 8, 1, 0] rfl) h
set_option maxRecDepth 100000 in
set_option maxHeartbeats 4000000 in
theorem c_X7_collect (l : Launch) (D : va_G) (g : Nat → ClassId) (a : Nat → Nat) (o : Nat) (spW : Int32) (spH : Int32) (fr : (Nat → Int64)) (codes : (Nat → Int32)) (counts : (Nat → Int32)) (i1 : Int32) (u : (Nat → Int32) × (Nat → Int32)) (h : f_X7_collect spH fr codes counts i1 = some u) : b_Ct l yX7_collect cX7_collect 10 none 2 60 D g [.ref (a o), .int i1] [k_Space g a o spW spH fr codes counts] [k_Space g a o spW spH fr u.1 u.2] none := by
  refine b_start RX7 (by decide) rfl (Nat.le_of_ble_eq_true rfl) rfl ?_
  intro p e s m args below meth c A ls Q hQ hx hb hr hlk hml hown hT hK hA hw hl
  have hl : lv_has ls 10 [(0, .ref (a o)), (1, .int i1)] := hl
  unfold f_X7_collect at h
  refine lv_aload_n hx hb dX7_collect_0 rfl (lv_at hl 0 rfl) ?_
  refine b_get hx hb hT hK hown fl_X7_19 hw 0 0 rfl rfl (v := .ref (a (o+3))) rfl dX7_collect_1 ?_
  refine lv_iload_n hx hb dX7_collect_4 rfl (lv_at hl 1 rfl) ?_
  refine lv_iconst (v := 0) hx hb dX7_collect_5 (by decide) ?_
  obtain ⟨f1, ef1, hif1, h⟩ := g_wr_some h
  refine b_iast hx hb hK hw 0 3 rfl (f := counts) rfl hif1 ef1 rfl (wb' := [k_Space g a o spW spH fr codes f1]) rfl dX7_collect_6 (fun H locs hw => ?_)
  refine lv_iconst (v := 0) hx hb dX7_collect_7 (by decide) ?_
  refine lv_istore_n (lv' := [(2, .int (0 : Int32)), (0, .ref (a o)), (1, .int i1)]) hx hb dX7_collect_8 rfl hl (by decide) rfl (fun ls hl => ?_)
  have hL9 : ∀ (n : Nat) (x2 : Int32) (f3 : Nat → Int32) (f4 : Nat → Int32) (H : Heap) (locs : List Loc) (ls : Array Slot), b_Wd D A s.heap H locs [k_Space g a o spW spH fr f3 f4] → lv_has ls 10 [(0, .ref (a o)), (1, .int i1), (2, .int x2)] → f_X7_collect_L9 spH fr i1 n x2 f3 f4 = some u → W p l e (g_rm 2 60) s m args below meth c H locs 0 0 Q (F0 m 9 ls []) := by
    intro n
    induction n with
    | zero =>
      intro x2 f3 f4 H locs ls hw hl h
      cases (show none = some u from h)
    | succ n ih9 =>
      intro x2 f3 f4 H locs ls hw hl h
      rw [f_X7_collect_L9] at h
      refine lv_iload_n hx hb dX7_collect_9 rfl (lv_at hl 2 rfl) ?_
      refine lv_aload_n hx hb dX7_collect_10 rfl (lv_at hl 0 rfl) ?_
      refine b_get hx hb hT hK hown fl_X7_35 hw 0 0 rfl rfl (v := .int spH) rfl dX7_collect_11 ?_
      refine lv_icmp_ge (tgt := 151) hx hb dX7_collect_14 (by decide) (fun hc14 => ?_) (fun hc14 => ?_)
      · rw [if_pos hc14] at h
        obtain rfl := Option.some.inj h
        exact b_vret hQ hx hb hr hlk hw rfl dX7_collect_151
      · rw [if_neg hc14] at h
        refine lv_iload_n hx hb dX7_collect_17 rfl (lv_at hl 2 rfl) ?_
        obtain ⟨j33_5, ej33_5, h⟩ := g_jn_nm h
        have hj33_5 : ∀ (y5 : Int64) (H : Heap) (locs : List Loc) (ls : Array Slot), b_Wd D A s.heap H locs [k_Space g a o spW spH fr f3 f4] → lv_has ls 10 [(0, .ref (a o)), (1, .int i1), (2, .int x2)] → j33_5 y5 = some u → W p l e (g_rm 2 60) s m args below meth c H locs 0 0 Q (F0 m 33 ls [.long y5]) := by
          intro y5 H locs ls hw hl h
          subst ej33_5
          dsimp only at h
          refine lv_lstore_n (lv' := [(3, .long y5), (0, .ref (a o)), (1, .int i1), (2, .int x2)]) hx hb dX7_collect_33 rfl hl (by decide) rfl (fun ls hl => ?_)
          refine lv_aload_n hx hb dX7_collect_34 rfl (lv_at hl 1 rfl) ?_
          refine b_get hx hb hT hK hown fl_X7_9 hw 0 0 rfl rfl (v := .ref (a (o+1))) rfl dX7_collect_35 ?_
          refine lv_iload_n hx hb dX7_collect_38 rfl (lv_at hl 3 rfl) ?_
          obtain ⟨y7, ey7, hiy7, h⟩ := g_rd_some h
          refine b_lald hx hb hK hw 0 1 rfl (f := fr) rfl hiy7 ey7 dX7_collect_39 ?_
          refine lv_lstore (lv' := [(5, .long y7), (3, .long y5), (0, .ref (a o)), (1, .int i1), (2, .int x2)]) hx hb dX7_collect_40 hl (by decide) rfl (fun ls hl => ?_)
          refine lv_iload_n hx hb dX7_collect_42 rfl (lv_at hl 4 rfl) ?_
          refine lv_istore (lv' := [(7, .int x2), (5, .long y7), (3, .long y5), (0, .ref (a o)), (1, .int i1), (2, .int x2)]) hx hb dX7_collect_43 hl (by decide) rfl (fun ls hl => ?_)
          obtain ⟨k145_9, ek145_9, h⟩ := g_jn_nm h
          have hk145_9 : ∀ (f8 : Nat → Int32) (f9 : Nat → Int32) (H : Heap) (locs : List Loc) (ls : Array Slot), b_Wd D A s.heap H locs [k_Space g a o spW spH fr f8 f9] → lv_has ls 10 [(0, .ref (a o)), (1, .int i1), (2, .int x2)] → k145_9 f8 f9 = some u → W p l e (g_rm 2 60) s m args below meth c H locs 0 0 Q (F0 m 145 ls []) := by
            intro f8 f9 H locs ls hw hl h
            subst ek145_9
            dsimp only at h
            obtain ⟨x11, ex11, h⟩ := g_bd_nm h
            refine lv_iinc (v := x11) (lv' := [(2, .int x11), (0, .ref (a o)), (1, .int i1)]) hx hb dX7_collect_145 hl (k := 2) rfl (by rw [ex11]; rfl) (by decide) rfl (fun ls hl => ?_)
            refine lv_goto (tgt := 9) hx hb dX7_collect_148 (by decide) ?_
            exact ih9 x11 f8 f9 _ _ _ hw (lv_sub hl [1, 2, 0] rfl) h
          have hL45 : ∀ (n : Nat) (y12 : Int64) (x13 : Int32) (f14 : Nat → Int32) (f15 : Nat → Int32) (H : Heap) (locs : List Loc) (ls : Array Slot), b_Wd D A s.heap H locs [k_Space g a o spW spH fr f14 f15] → lv_has ls 10 [(0, .ref (a o)), (1, .int i1), (2, .int x2), (3, .long y5), (5, .long y12), (7, .int x13)] → f_X7_collect_L45 spH fr i1 x2 y5 k145_9 n y12 x13 f14 f15 = some u → W p l e (g_rm 2 60) s m args below meth c H locs 0 0 Q (F0 m 45 ls []) := by
            intro n
            induction n with
            | zero =>
              intro y12 x13 f14 f15 H locs ls hw hl h
              cases (show none = some u from h)
            | succ n ih45 =>
              intro y12 x13 f14 f15 H locs ls hw hl h
              rw [f_X7_collect_L45] at h
              refine lv_iload hx hb dX7_collect_45 (lv_at hl 5 rfl) ?_
              refine lv_aload_n hx hb dX7_collect_47 rfl (lv_at hl 0 rfl) ?_
              refine b_get hx hb hT hK hown fl_X7_35 hw 0 0 rfl rfl (v := .int spH) rfl dX7_collect_48 ?_
              refine lv_icmp_ge (tgt := 145) hx hb dX7_collect_51 (by decide) (fun hc51 => ?_) (fun hc51 => ?_)
              · rw [if_pos hc51] at h
                exact hk145_9 f14 f15 _ _ _ hw (lv_sub hl [0, 1, 2] rfl) h
              · rw [if_neg hc51] at h
                refine lv_lload hx hb dX7_collect_54 (lv_at hl 4 rfl) ?_
                refine lv_lload_n hx hb dX7_collect_56 rfl (lv_at hl 3 rfl) ?_
                refine lv_ldc2 hx hb hown (hT _ kc_X7_44) dX7_collect_57 ?_
                refine lv_lxor hx hb dX7_collect_60 ?_
                refine lv_land hx hb dX7_collect_61 ?_
                refine lv_lconst (v := 0) hx hb dX7_collect_62 (by decide) ?_
                refine W.lcmp hx hb dX7_collect_63 ?_
                refine lv_if_eq (tgt := 145) hx hb dX7_collect_64 (by decide) (fun hc64 => ?_) (fun hc64 => ?_)
                · rw [if_pos hc64] at h
                  exact hk145_9 f14 f15 _ _ _ hw (lv_sub hl [0, 1, 2] rfl) h
                · rw [if_neg hc64] at h
                  refine lv_iload hx hb dX7_collect_67 (lv_at hl 5 rfl) ?_
                  refine lv_iconst (v := 1) hx hb dX7_collect_69 (by decide) ?_
                  refine lv_iadd hx hb dX7_collect_70 ?_
                  refine lv_aload_n hx hb dX7_collect_71 rfl (lv_at hl 0 rfl) ?_
                  refine b_get hx hb hT hK hown fl_X7_35 hw 0 0 rfl rfl (v := .int spH) rfl dX7_collect_72 ?_
                  obtain ⟨j91_16, ej91_16, h⟩ := g_jn_nm h
                  have hj91_16 : ∀ (y16 : Int64) (H : Heap) (locs : List Loc) (ls : Array Slot), b_Wd D A s.heap H locs [k_Space g a o spW spH fr f14 f15] → lv_has ls 10 [(0, .ref (a o)), (1, .int i1), (2, .int x2), (3, .long y5), (5, .long y12), (7, .int x13)] → j91_16 y16 = some u → W p l e (g_rm 2 60) s m args below meth c H locs 0 0 Q (F0 m 91 ls [.long y16]) := by
                    intro y16 H locs ls hw hl h
                    subst ej91_16
                    dsimp only at h
                    refine lv_lstore (lv' := [(8, .long y16), (0, .ref (a o)), (1, .int i1), (2, .int x2), (3, .long y5), (5, .long y12), (7, .int x13)]) hx hb dX7_collect_91 hl (by decide) rfl (fun ls hl => ?_)
                    refine lv_lload hx hb dX7_collect_93 (lv_at hl 5 rfl) ?_
                    refine lv_lload hx hb dX7_collect_95 (lv_at hl 0 rfl) ?_
                    refine lv_ldc2 hx hb hown (hT _ kc_X7_44) dX7_collect_97 ?_
                    refine lv_lxor hx hb dX7_collect_100 ?_
                    refine lv_land hx hb dX7_collect_101 ?_
                    refine lv_lconst (v := 0) hx hb dX7_collect_102 (by decide) ?_
                    refine W.lcmp hx hb dX7_collect_103 ?_
                    obtain ⟨j132_19, ej132_19, h⟩ := g_jn_nm h
                    have hj132_19 : ∀ (f18 : Nat → Int32) (f19 : Nat → Int32) (H : Heap) (locs : List Loc) (ls : Array Slot), b_Wd D A s.heap H locs [k_Space g a o spW spH fr f18 f19] → lv_has ls 10 [(0, .ref (a o)), (1, .int i1), (2, .int x2), (3, .long y5), (5, .long y12), (7, .int x13), (8, .long y16)] → j132_19 f18 f19 = some u → W p l e (g_rm 2 60) s m args below meth c H locs 0 0 Q (F0 m 132 ls []) := by
                      intro f18 f19 H locs ls hw hl h
                      subst ej132_19
                      dsimp only at h
                      refine lv_lload hx hb dX7_collect_132 (lv_at hl 4 rfl) ?_
                      refine lv_lload hx hb dX7_collect_134 (lv_at hl 6 rfl) ?_
                      refine lv_land hx hb dX7_collect_136 ?_
                      obtain ⟨y21, ey21, h⟩ := g_bd_nm h
                      refine g_topl ey21 ?_
                      refine lv_lstore (lv' := [(5, .long y21), (0, .ref (a o)), (1, .int i1), (2, .int x2), (3, .long y5), (7, .int x13), (8, .long y16)]) hx hb dX7_collect_137 hl (by decide) rfl (fun ls hl => ?_)
                      obtain ⟨x22, ex22, h⟩ := g_bd_nm h
                      refine lv_iinc (v := x22) (lv' := [(7, .int x22), (5, .long y21), (0, .ref (a o)), (1, .int i1), (2, .int x2), (3, .long y5), (8, .long y16)]) hx hb dX7_collect_139 hl (k := 5) rfl (by rw [ex22]; rfl) (by decide) rfl (fun ls hl => ?_)
                      refine lv_goto (tgt := 45) hx hb dX7_collect_142 (by decide) ?_
                      exact ih45 y21 x22 f18 f19 _ _ _ hw (lv_sub hl [2, 3, 4, 5, 1, 0] rfl) h
                    refine lv_if_eq (tgt := 132) hx hb dX7_collect_104 (by decide) (fun hc104 => ?_) (fun hc104 => ?_)
                    · rw [if_pos hc104] at h
                      exact hj132_19 f14 f15 _ _ _ hw (lv_sub hl [1, 2, 3, 4, 5, 6, 0] rfl) h
                    · rw [if_neg hc104] at h
                      refine lv_aload_n hx hb dX7_collect_107 rfl (lv_at hl 1 rfl) ?_
                      refine lv_iload_n hx hb dX7_collect_108 rfl (lv_at hl 2 rfl) ?_
                      refine lv_iload_n hx hb dX7_collect_109 rfl (lv_at hl 3 rfl) ?_
                      refine lv_iload hx hb dX7_collect_110 (lv_at hl 6 rfl) ?_
                      refine lv_iload_n hx hb dX7_collect_112 rfl (lv_at hl 3 rfl) ?_
                      refine lv_isub hx hb dX7_collect_113 ?_
                      refine lv_iconst (v := 1) hx hb dX7_collect_114 (by decide) ?_
                      refine lv_iadd hx hb dX7_collect_115 ?_
                      refine lv_lload hx hb dX7_collect_116 (lv_at hl 5 rfl) ?_
                      refine lv_lload_n hx hb dX7_collect_118 rfl (lv_at hl 4 rfl) ?_
                      refine lv_ldc2 hx hb hown (hT _ kc_X7_44) dX7_collect_119 ?_
                      refine lv_lxor hx hb dX7_collect_122 ?_
                      refine lv_lload hx hb dX7_collect_123 (lv_at hl 0 rfl) ?_
                      refine lv_ldc2 hx hb hown (hT _ kc_X7_44) dX7_collect_125 ?_
                      refine lv_lxor hx hb dX7_collect_128 ?_
                      obtain ⟨r23, er23, h⟩ := g_cl_some h
                      refine b_callV hx hb hml hown hT hK hA hw mk_X7_46 (c_X7_collectRuns l D g a o spW spH fr f14 f15 i1 x2 ((x13 - x2) + (1 : Int32)) y12 (y5 ^^^ (-1 : Int64)) (y16 ^^^ (-1 : Int64)) r23 er23) [0] [] rfl (by decide) 0 0 rfl rfl rfl rfl hl.1 [] rfl (Nat.le_of_ble_eq_true rfl) ⟨Nat.le_of_ble_eq_true rfl, Nat.le_of_ble_eq_true rfl⟩ ⟨Nat.zero_le _, Nat.zero_le _⟩ dX7_collect_129 (wb' := [k_Space g a o spW spH fr r23.1 r23.2]) rfl b_e0 1 rfl (by decide) (st2 := []) rfl (fun H locs hw => ?_)
                      exact hj132_19 r23.1 r23.2 _ _ _ hw (lv_sub hl [1, 2, 3, 4, 5, 6, 0] rfl) h
                  refine lv_icmp_ge (tgt := 90) hx hb dX7_collect_75 (by decide) (fun hc75 => ?_) (fun hc75 => ?_)
                  · rw [if_pos hc75] at h
                    refine lv_lconst (v := 0) hx hb dX7_collect_90 (by decide) ?_
                    exact hj91_16 (0 : Int64) _ _ _ hw (lv_sub hl [0, 1, 2, 3, 4, 5] rfl) h
                  · rw [if_neg hc75] at h
                    refine lv_aload_n hx hb dX7_collect_78 rfl (lv_at hl 0 rfl) ?_
                    refine b_get hx hb hT hK hown fl_X7_9 hw 0 0 rfl rfl (v := .ref (a (o+1))) rfl dX7_collect_79 ?_
                    refine lv_iload hx hb dX7_collect_82 (lv_at hl 5 rfl) ?_
                    refine lv_iconst (v := 1) hx hb dX7_collect_84 (by decide) ?_
                    refine lv_iadd hx hb dX7_collect_85 ?_
                    obtain ⟨y24, ey24, hiy24, h⟩ := g_rd_some h
                    refine b_lald hx hb hK hw 0 1 rfl (f := fr) rfl hiy24 ey24 dX7_collect_86 ?_
                    refine lv_goto (tgt := 91) hx hb dX7_collect_87 (by decide) ?_
                    exact hj91_16 y24 _ _ _ hw (lv_sub hl [0, 1, 2, 3, 4, 5] rfl) h
          exact hL45 g_fuel y7 x2 f3 f4 _ _ _ hw (lv_sub hl [3, 4, 5, 2, 1, 0] rfl) h
        refine lv_if_ne (tgt := 25) hx hb dX7_collect_18 (by decide) (fun hc18 => ?_) (fun hc18 => ?_)
        · rw [if_neg hc18] at h
          refine lv_aload_n hx hb dX7_collect_25 rfl (lv_at hl 0 rfl) ?_
          refine b_get hx hb hT hK hown fl_X7_9 hw 0 0 rfl rfl (v := .ref (a (o+1))) rfl dX7_collect_26 ?_
          refine lv_iload_n hx hb dX7_collect_29 rfl (lv_at hl 2 rfl) ?_
          refine lv_iconst (v := 1) hx hb dX7_collect_30 (by decide) ?_
          refine lv_isub hx hb dX7_collect_31 ?_
          obtain ⟨y25, ey25, hiy25, h⟩ := g_rd_some h
          refine b_lald hx hb hK hw 0 1 rfl (f := fr) rfl hiy25 ey25 dX7_collect_32 ?_
          exact hj33_5 y25 _ _ _ hw (lv_sub hl [0, 1, 2] rfl) h
        · rw [if_pos hc18] at h
          refine lv_lconst (v := 0) hx hb dX7_collect_21 (by decide) ?_
          refine lv_goto (tgt := 33) hx hb dX7_collect_22 (by decide) ?_
          exact hj33_5 (0 : Int64) _ _ _ hw (lv_sub hl [0, 1, 2] rfl) h
  exact hL9 g_fuel (0 : Int32) codes f1 _ _ _ hw (lv_sub hl [1, 2, 0] rfl) h
set_option maxRecDepth 100000 in
set_option maxHeartbeats 4000000 in
theorem c_X3_survey (l : Launch) (D : va_G) (g : Nat → ClassId) (a : Nat → Nat) (o : Nat) (aS : Nat → Nat) (oS : Nat) (aC : Nat → Nat) (oC : Nat) (spW : Int32) (spH : Int32) (fr : (Nat → Int64)) (codes : (Nat → Int32)) (counts : (Nat → Int32)) (S : Nat → Nat → Int32) (lefts : (Nat → Int32)) (tops : (Nat → Int32)) (cwidths : (Nat → Int32)) (cheights : (Nat → Int32)) (originals : (Nat → Int32)) (orients : (Nat → Int32)) (i1 : Int32) (u : Int32 × Int32 × (Nat → Int64) × (Nat → Int32) × (Nat → Int32)) (h : f_X3_survey fr codes counts S cwidths cheights i1 = some u) : b_Ct l yX3_survey cX3_survey 5 none 3 89 D g [.ref (a o), .int i1] [k_PkO g a o (aS oS) (aC oC), k_Space g a (o+1) spW spH fr codes counts, k_StO g aS oS, k_Sheet g aS (oS+1) (S 0 0) (S 1) (S 2) (S 3) (S 4), k_Settings g aS (oS+6) (S 5 0) (S 5 1) (S 5 2) (S 5 3) (S 5 4) (S 5 5) (S 5 6) (S 5 7) (S 5 8) (S 5 9) (S 5 10) (S 5 11), k_Places g aS (oS+7) (S 6 0) (S 7) (S 8) (S 9) (S 10) (S 11), k_Catalog g aC oC lefts tops cwidths cheights originals orients] [k_PkO g a o (aS oS) (aC oC), k_Space g a (o+1) u.1 u.2.1 u.2.2.1 u.2.2.2.1 u.2.2.2.2, k_StO g aS oS, k_Sheet g aS (oS+1) (S 0 0) (S 1) (S 2) (S 3) (S 4), k_Settings g aS (oS+6) (S 5 0) (S 5 1) (S 5 2) (S 5 3) (S 5 4) (S 5 5) (S 5 6) (S 5 7) (S 5 8) (S 5 9) (S 5 10) (S 5 11), k_Places g aS (oS+7) (S 6 0) (S 7) (S 8) (S 9) (S 10) (S 11), k_Catalog g aC oC lefts tops cwidths cheights originals orients] none := by
  refine b_start RX3 (by decide) rfl (Nat.le_of_ble_eq_true rfl) rfl ?_
  intro p e s m args below meth c A ls Q hQ hx hb hr hlk hml hown hT hK hA hw hl
  have hl : lv_has ls 5 [(0, .ref (a o)), (1, .int i1)] := hl
  unfold f_X3_survey at h
  refine lv_aload_n hx hb dX3_survey_0 rfl (lv_at hl 0 rfl) ?_
  refine b_get hx hb hT hK hown fl_X3_29 hw 0 0 rfl rfl (v := .ref (aS oS)) rfl dX3_survey_1 ?_
  refine b_get hx hb hT hK hown fl_X3_37 hw 2 0 rfl rfl (v := .ref (aS (oS+7))) rfl dX3_survey_4 ?_
  refine lv_astore_n (lv' := [(2, .ref (aS (oS+7))), (0, .ref (a o)), (1, .int i1)]) hx hb dX3_survey_7 rfl hl (by decide) rfl (fun ls hl => ?_)
  refine lv_aload_n hx hb dX3_survey_8 rfl (lv_at hl 1 rfl) ?_
  refine b_get hx hb hT hK hown fl_X3_12 hw 0 0 rfl rfl (v := .ref (a (o+1))) rfl dX3_survey_9 ?_
  refine lv_aload_n hx hb dX3_survey_12 rfl (lv_at hl 1 rfl) ?_
  refine b_get hx hb hT hK hown fl_X3_29 hw 0 0 rfl rfl (v := .ref (aS oS)) rfl dX3_survey_13 ?_
  refine b_get hx hb hT hK hown fl_X3_71 hw 2 0 rfl rfl (v := .ref (aS (oS+6))) rfl dX3_survey_16 ?_
  refine b_callV hx hb hml hown hT hK hA hw mk_X3_132 (c_X5_fieldWidth l D g aS (oS+6) (S 5 0) (S 5 1) (S 5 2) (S 5 3) (S 5 4) (S 5 5) (S 5 6) (S 5 7) (S 5 8) (S 5 9) (S 5 10) (S 5 11)) [4] [0, 1, 2, 3, 5, 6] rfl (by decide) 4 0 rfl rfl rfl rfl hl.1 [.ref (a (o+1))] rfl (Nat.le_of_ble_eq_true rfl) ⟨Nat.le_of_ble_eq_true rfl, Nat.le_of_ble_eq_true rfl⟩ ⟨Nat.zero_le _, Nat.zero_le _⟩ dX3_survey_19 (wb' := [k_PkO g a o (aS oS) (aC oC), k_Space g a (o+1) spW spH fr codes counts, k_StO g aS oS, k_Sheet g aS (oS+1) (S 0 0) (S 1) (S 2) (S 3) (S 4), k_Settings g aS (oS+6) (S 5 0) (S 5 1) (S 5 2) (S 5 3) (S 5 4) (S 5 5) (S 5 6) (S 5 7) (S 5 8) (S 5 9) (S 5 10) (S 5 11), k_Places g aS (oS+7) (S 6 0) (S 7) (S 8) (S 9) (S 10) (S 11), k_Catalog g aC oC lefts tops cwidths cheights originals orients]) rfl (b_e1 rfl (b_e1 rfl (b_e1 rfl (b_e1 rfl (b_e1 rfl (b_e1 rfl b_e0)))))) 7 rfl (by decide) (st2 := [.int (f_X5_fieldWidth (S 5 0) (S 5 3) (S 5 4)), .ref (a (o+1))]) rfl (fun H locs hw => ?_)
  refine lv_aload_n hx hb dX3_survey_22 rfl (lv_at hl 1 rfl) ?_
  refine b_get hx hb hT hK hown fl_X3_29 hw 0 0 rfl rfl (v := .ref (aS oS)) rfl dX3_survey_23 ?_
  refine b_get hx hb hT hK hown fl_X3_71 hw 2 0 rfl rfl (v := .ref (aS (oS+6))) rfl dX3_survey_26 ?_
  refine b_callV hx hb hml hown hT hK hA hw mk_X3_135 (c_X5_fieldHeight l D g aS (oS+6) (S 5 0) (S 5 1) (S 5 2) (S 5 3) (S 5 4) (S 5 5) (S 5 6) (S 5 7) (S 5 8) (S 5 9) (S 5 10) (S 5 11)) [4] [0, 1, 2, 3, 5, 6] rfl (by decide) 4 0 rfl rfl rfl rfl hl.1 [.int (f_X5_fieldWidth (S 5 0) (S 5 3) (S 5 4)), .ref (a (o+1))] rfl (Nat.le_of_ble_eq_true rfl) ⟨Nat.le_of_ble_eq_true rfl, Nat.le_of_ble_eq_true rfl⟩ ⟨Nat.zero_le _, Nat.zero_le _⟩ dX3_survey_29 (wb' := [k_PkO g a o (aS oS) (aC oC), k_Space g a (o+1) spW spH fr codes counts, k_StO g aS oS, k_Sheet g aS (oS+1) (S 0 0) (S 1) (S 2) (S 3) (S 4), k_Settings g aS (oS+6) (S 5 0) (S 5 1) (S 5 2) (S 5 3) (S 5 4) (S 5 5) (S 5 6) (S 5 7) (S 5 8) (S 5 9) (S 5 10) (S 5 11), k_Places g aS (oS+7) (S 6 0) (S 7) (S 8) (S 9) (S 10) (S 11), k_Catalog g aC oC lefts tops cwidths cheights originals orients]) rfl (b_e1 rfl (b_e1 rfl (b_e1 rfl (b_e1 rfl (b_e1 rfl (b_e1 rfl b_e0)))))) 7 rfl (by decide) (st2 := [.int (f_X5_fieldHeight (S 5 1) (S 5 3) (S 5 4)), .int (f_X5_fieldWidth (S 5 0) (S 5 3) (S 5 4)), .ref (a (o+1))]) rfl (fun H locs hw => ?_)
  obtain ⟨r1, er1, h⟩ := g_cl_some h
  refine b_callV hx hb hml hown hT hK hA hw mk_X3_138 (c_X7_open l D g a (o+1) spW spH fr codes counts (f_X5_fieldWidth (S 5 0) (S 5 3) (S 5 4)) (f_X5_fieldHeight (S 5 1) (S 5 3) (S 5 4)) r1 er1) [1] [0, 2, 3, 4, 5, 6] rfl (by decide) 1 0 rfl rfl rfl rfl hl.1 [] rfl (Nat.le_of_ble_eq_true rfl) ⟨Nat.le_of_ble_eq_true rfl, Nat.le_of_ble_eq_true rfl⟩ ⟨Nat.zero_le _, Nat.zero_le _⟩ dX3_survey_32 (wb' := [k_PkO g a o (aS oS) (aC oC), k_Space g a (o+1) r1.1 r1.2.1 r1.2.2 codes counts, k_StO g aS oS, k_Sheet g aS (oS+1) (S 0 0) (S 1) (S 2) (S 3) (S 4), k_Settings g aS (oS+6) (S 5 0) (S 5 1) (S 5 2) (S 5 3) (S 5 4) (S 5 5) (S 5 6) (S 5 7) (S 5 8) (S 5 9) (S 5 10) (S 5 11), k_Places g aS (oS+7) (S 6 0) (S 7) (S 8) (S 9) (S 10) (S 11), k_Catalog g aC oC lefts tops cwidths cheights originals orients]) rfl (b_e1 rfl (b_e1 rfl (b_e1 rfl (b_e1 rfl (b_e1 rfl (b_e1 rfl b_e0)))))) 7 rfl (by decide) (st2 := []) rfl (fun H locs hw => ?_)
  refine lv_iconst (v := 0) hx hb dX3_survey_35 (by decide) ?_
  refine lv_istore_n (lv' := [(3, .int (0 : Int32)), (2, .ref (aS (oS+7))), (0, .ref (a o)), (1, .int i1)]) hx hb dX3_survey_36 rfl hl (by decide) rfl (fun ls hl => ?_)
  obtain ⟨k108_2, ek108_2, h⟩ := g_jn_nm h
  have hk108_2 : ∀ (f2 : Nat → Int64) (H : Heap) (locs : List Loc) (ls : Array Slot), b_Wd D A s.heap H locs [k_PkO g a o (aS oS) (aC oC), k_Space g a (o+1) r1.1 r1.2.1 f2 codes counts, k_StO g aS oS, k_Sheet g aS (oS+1) (S 0 0) (S 1) (S 2) (S 3) (S 4), k_Settings g aS (oS+6) (S 5 0) (S 5 1) (S 5 2) (S 5 3) (S 5 4) (S 5 5) (S 5 6) (S 5 7) (S 5 8) (S 5 9) (S 5 10) (S 5 11), k_Places g aS (oS+7) (S 6 0) (S 7) (S 8) (S 9) (S 10) (S 11), k_Catalog g aC oC lefts tops cwidths cheights originals orients] → lv_has ls 5 [(0, .ref (a o)), (1, .int i1)] → k108_2 f2 = some u → W p l e (g_rm 3 89) s m args below meth c H locs 0 0 Q (F0 m 108 ls []) := by
    intro f2 H locs ls hw hl h
    subst ek108_2
    dsimp only at h
    refine lv_aload_n hx hb dX3_survey_108 rfl (lv_at hl 0 rfl) ?_
    refine b_get hx hb hT hK hown fl_X3_12 hw 0 0 rfl rfl (v := .ref (a (o+1))) rfl dX3_survey_109 ?_
    refine lv_iload_n hx hb dX3_survey_112 rfl (lv_at hl 1 rfl) ?_
    obtain ⟨r4, er4, h⟩ := g_cl_some h
    refine b_callV hx hb hml hown hT hK hA hw mk_X3_156 (c_X7_collect l D g a (o+1) r1.1 r1.2.1 f2 codes counts i1 r4 er4) [1] [0, 2, 3, 4, 5, 6] rfl (by decide) 1 0 rfl rfl rfl rfl hl.1 [] rfl (Nat.le_of_ble_eq_true rfl) ⟨Nat.le_of_ble_eq_true rfl, Nat.le_of_ble_eq_true rfl⟩ ⟨Nat.zero_le _, Nat.zero_le _⟩ dX3_survey_113 (wb' := [k_PkO g a o (aS oS) (aC oC), k_Space g a (o+1) r1.1 r1.2.1 f2 r4.1 r4.2, k_StO g aS oS, k_Sheet g aS (oS+1) (S 0 0) (S 1) (S 2) (S 3) (S 4), k_Settings g aS (oS+6) (S 5 0) (S 5 1) (S 5 2) (S 5 3) (S 5 4) (S 5 5) (S 5 6) (S 5 7) (S 5 8) (S 5 9) (S 5 10) (S 5 11), k_Places g aS (oS+7) (S 6 0) (S 7) (S 8) (S 9) (S 10) (S 11), k_Catalog g aC oC lefts tops cwidths cheights originals orients]) rfl (b_e1 rfl (b_e1 rfl (b_e1 rfl (b_e1 rfl (b_e1 rfl (b_e1 rfl b_e0)))))) 7 rfl (by decide) (st2 := []) rfl (fun H locs hw => ?_)
    obtain rfl := Option.some.inj h
    exact b_vret hQ hx hb hr hlk hw rfl dX3_survey_116
  have hL37 : ∀ (n : Nat) (x5 : Int32) (f6 : Nat → Int64) (H : Heap) (locs : List Loc) (ls : Array Slot), b_Wd D A s.heap H locs [k_PkO g a o (aS oS) (aC oC), k_Space g a (o+1) r1.1 r1.2.1 f6 codes counts, k_StO g aS oS, k_Sheet g aS (oS+1) (S 0 0) (S 1) (S 2) (S 3) (S 4), k_Settings g aS (oS+6) (S 5 0) (S 5 1) (S 5 2) (S 5 3) (S 5 4) (S 5 5) (S 5 6) (S 5 7) (S 5 8) (S 5 9) (S 5 10) (S 5 11), k_Places g aS (oS+7) (S 6 0) (S 7) (S 8) (S 9) (S 10) (S 11), k_Catalog g aC oC lefts tops cwidths cheights originals orients] → lv_has ls 5 [(0, .ref (a o)), (1, .int i1), (2, .ref (aS (oS+7))), (3, .int x5)] → f_X3_survey_L37 S cwidths cheights i1 r1 k108_2 n x5 f6 = some u → W p l e (g_rm 3 89) s m args below meth c H locs 0 0 Q (F0 m 37 ls []) := by
    intro n
    induction n with
    | zero =>
      intro x5 f6 H locs ls hw hl h
      cases (show none = some u from h)
    | succ n ih37 =>
      intro x5 f6 H locs ls hw hl h
      rw [f_X3_survey_L37] at h
      refine lv_iload_n hx hb dX3_survey_37 rfl (lv_at hl 3 rfl) ?_
      refine lv_aload_n hx hb dX3_survey_38 rfl (lv_at hl 0 rfl) ?_
      refine b_get hx hb hT hK hown fl_X3_29 hw 0 0 rfl rfl (v := .ref (aS oS)) rfl dX3_survey_39 ?_
      refine b_get hx hb hT hK hown fl_X3_92 hw 2 0 rfl rfl (v := .ref (aS (oS+1))) rfl dX3_survey_42 ?_
      refine b_get hx hb hT hK hown fl_X3_142 hw 3 0 rfl rfl (v := .int (S 0 0)) rfl dX3_survey_45 ?_
      refine lv_icmp_ge (tgt := 108) hx hb dX3_survey_48 (by decide) (fun hc48 => ?_) (fun hc48 => ?_)
      · rw [if_pos hc48] at h
        exact hk108_2 f6 _ _ _ hw (lv_sub hl [0, 1] rfl) h
      · rw [if_neg hc48] at h
        refine lv_aload_n hx hb dX3_survey_51 rfl (lv_at hl 2 rfl) ?_
        refine b_get hx hb hT hK hown fl_X3_107 hw 5 0 rfl rfl (v := .ref (aS (oS+9))) rfl dX3_survey_52 ?_
        refine lv_iload_n hx hb dX3_survey_55 rfl (lv_at hl 3 rfl) ?_
        obtain ⟨x7, ex7, hix7, h⟩ := g_rd_some h
        refine b_iald hx hb hK hw 5 2 rfl (f := (S 8)) rfl hix7 ex7 dX3_survey_56 ?_
        refine lv_iload_n hx hb dX3_survey_57 rfl (lv_at hl 1 rfl) ?_
        obtain ⟨j102_8, ej102_8, h⟩ := g_jn_nm h
        have hj102_8 : ∀ (f8 : Nat → Int64) (H : Heap) (locs : List Loc) (ls : Array Slot), b_Wd D A s.heap H locs [k_PkO g a o (aS oS) (aC oC), k_Space g a (o+1) r1.1 r1.2.1 f8 codes counts, k_StO g aS oS, k_Sheet g aS (oS+1) (S 0 0) (S 1) (S 2) (S 3) (S 4), k_Settings g aS (oS+6) (S 5 0) (S 5 1) (S 5 2) (S 5 3) (S 5 4) (S 5 5) (S 5 6) (S 5 7) (S 5 8) (S 5 9) (S 5 10) (S 5 11), k_Places g aS (oS+7) (S 6 0) (S 7) (S 8) (S 9) (S 10) (S 11), k_Catalog g aC oC lefts tops cwidths cheights originals orients] → lv_has ls 5 [(0, .ref (a o)), (1, .int i1), (2, .ref (aS (oS+7))), (3, .int x5)] → j102_8 f8 = some u → W p l e (g_rm 3 89) s m args below meth c H locs 0 0 Q (F0 m 102 ls []) := by
          intro f8 H locs ls hw hl h
          subst ej102_8
          dsimp only at h
          obtain ⟨x10, ex10, h⟩ := g_bd_nm h
          refine lv_iinc (v := x10) (lv' := [(3, .int x10), (0, .ref (a o)), (1, .int i1), (2, .ref (aS (oS+7)))]) hx hb dX3_survey_102 hl (k := 3) rfl (by rw [ex10]; rfl) (by decide) rfl (fun ls hl => ?_)
          refine lv_goto (tgt := 37) hx hb dX3_survey_105 (by decide) ?_
          exact ih37 x10 f8 _ _ _ hw (lv_sub hl [1, 2, 3, 0] rfl) h
        refine lv_icmp_ne (tgt := 102) hx hb dX3_survey_58 (by decide) (fun hc58 => ?_) (fun hc58 => ?_)
        · rw [if_neg hc58] at h
          exact hj102_8 f6 _ _ _ hw (lv_sub hl [0, 1, 2, 3] rfl) h
        · rw [if_pos hc58] at h
          refine lv_aload_n hx hb dX3_survey_61 rfl (lv_at hl 2 rfl) ?_
          refine b_get hx hb hT hK hown fl_X3_122 hw 5 0 rfl rfl (v := .ref (aS (oS+12))) rfl dX3_survey_62 ?_
          refine lv_iload_n hx hb dX3_survey_65 rfl (lv_at hl 3 rfl) ?_
          obtain ⟨x11, ex11, hix11, h⟩ := g_rd_some h
          refine b_zald hx hb hK hw 5 5 rfl (f := (S 11)) rfl hix11 ex11 dX3_survey_66 ?_
          refine lv_istore (lv' := [(4, .int x11), (0, .ref (a o)), (1, .int i1), (2, .ref (aS (oS+7))), (3, .int x5)]) hx hb dX3_survey_67 hl (by decide) rfl (fun ls hl => ?_)
          refine lv_aload_n hx hb dX3_survey_69 rfl (lv_at hl 1 rfl) ?_
          refine b_get hx hb hT hK hown fl_X3_12 hw 0 0 rfl rfl (v := .ref (a (o+1))) rfl dX3_survey_70 ?_
          refine lv_aload_n hx hb dX3_survey_73 rfl (lv_at hl 3 rfl) ?_
          refine b_get hx hb hT hK hown fl_X3_110 hw 5 0 rfl rfl (v := .ref (aS (oS+10))) rfl dX3_survey_74 ?_
          refine lv_iload_n hx hb dX3_survey_77 rfl (lv_at hl 4 rfl) ?_
          obtain ⟨x12, ex12, hix12, h⟩ := g_rd_some h
          refine b_iald hx hb hK hw 5 3 rfl (f := (S 9)) rfl hix12 ex12 dX3_survey_78 ?_
          refine lv_aload_n hx hb dX3_survey_79 rfl (lv_at hl 3 rfl) ?_
          refine b_get hx hb hT hK hown fl_X3_116 hw 5 0 rfl rfl (v := .ref (aS (oS+11))) rfl dX3_survey_80 ?_
          refine lv_iload_n hx hb dX3_survey_83 rfl (lv_at hl 4 rfl) ?_
          obtain ⟨x13, ex13, hix13, h⟩ := g_rd_some h
          refine b_iald hx hb hK hw 5 4 rfl (f := (S 10)) rfl hix13 ex13 dX3_survey_84 ?_
          refine lv_aload_n hx hb dX3_survey_85 rfl (lv_at hl 1 rfl) ?_
          refine lv_iload_n hx hb dX3_survey_86 rfl (lv_at hl 4 rfl) ?_
          refine lv_iload hx hb dX3_survey_87 (lv_at hl 0 rfl) ?_
          obtain ⟨r14, er14, h⟩ := g_cl_some h
          refine b_callV hx hb hml hown hT hK hA hw mk_X3_145 (c_X3_boxWidth l D g a o aS oS aC oC S lefts tops cwidths cheights originals orients x5 x11 r14 er14) [0, 2, 4, 6] [1, 3, 5] rfl (by decide) 0 0 rfl rfl rfl rfl hl.1 [.int x13, .int x12, .ref (a (o+1))] rfl (Nat.le_of_ble_eq_true rfl) ⟨Nat.le_of_ble_eq_true rfl, Nat.le_of_ble_eq_true rfl⟩ ⟨Nat.zero_le _, Nat.zero_le _⟩ dX3_survey_89 (wb' := [k_PkO g a o (aS oS) (aC oC), k_Space g a (o+1) r1.1 r1.2.1 f6 codes counts, k_StO g aS oS, k_Sheet g aS (oS+1) (S 0 0) (S 1) (S 2) (S 3) (S 4), k_Settings g aS (oS+6) (S 5 0) (S 5 1) (S 5 2) (S 5 3) (S 5 4) (S 5 5) (S 5 6) (S 5 7) (S 5 8) (S 5 9) (S 5 10) (S 5 11), k_Places g aS (oS+7) (S 6 0) (S 7) (S 8) (S 9) (S 10) (S 11), k_Catalog g aC oC lefts tops cwidths cheights originals orients]) rfl (b_e1 rfl (b_e1 rfl (b_e1 rfl b_e0))) 7 rfl (by decide) (st2 := [.int r14, .int x13, .int x12, .ref (a (o+1))]) rfl (fun H locs hw => ?_)
          refine lv_aload_n hx hb dX3_survey_92 rfl (lv_at hl 1 rfl) ?_
          refine lv_iload_n hx hb dX3_survey_93 rfl (lv_at hl 4 rfl) ?_
          refine lv_iload hx hb dX3_survey_94 (lv_at hl 0 rfl) ?_
          obtain ⟨r15, er15, h⟩ := g_cl_some h
          refine b_callV hx hb hml hown hT hK hA hw mk_X3_149 (c_X3_boxHeight l D g a o aS oS aC oC S lefts tops cwidths cheights originals orients x5 x11 r15 er15) [0, 2, 4, 6] [1, 3, 5] rfl (by decide) 0 0 rfl rfl rfl rfl hl.1 [.int r14, .int x13, .int x12, .ref (a (o+1))] rfl (Nat.le_of_ble_eq_true rfl) ⟨Nat.le_of_ble_eq_true rfl, Nat.le_of_ble_eq_true rfl⟩ ⟨Nat.zero_le _, Nat.zero_le _⟩ dX3_survey_96 (wb' := [k_PkO g a o (aS oS) (aC oC), k_Space g a (o+1) r1.1 r1.2.1 f6 codes counts, k_StO g aS oS, k_Sheet g aS (oS+1) (S 0 0) (S 1) (S 2) (S 3) (S 4), k_Settings g aS (oS+6) (S 5 0) (S 5 1) (S 5 2) (S 5 3) (S 5 4) (S 5 5) (S 5 6) (S 5 7) (S 5 8) (S 5 9) (S 5 10) (S 5 11), k_Places g aS (oS+7) (S 6 0) (S 7) (S 8) (S 9) (S 10) (S 11), k_Catalog g aC oC lefts tops cwidths cheights originals orients]) rfl (b_e1 rfl (b_e1 rfl (b_e1 rfl b_e0))) 7 rfl (by decide) (st2 := [.int r15, .int r14, .int x13, .int x12, .ref (a (o+1))]) rfl (fun H locs hw => ?_)
          obtain ⟨r16, er16, h⟩ := g_cl_some h
          refine b_callV hx hb hml hown hT hK hA hw mk_X3_152 (c_X7_block l D g a (o+1) r1.1 r1.2.1 f6 codes counts x12 x13 r14 r15 r16 er16) [1] [0, 2, 3, 4, 5, 6] rfl (by decide) 1 0 rfl rfl rfl rfl hl.1 [] rfl (Nat.le_of_ble_eq_true rfl) ⟨Nat.le_of_ble_eq_true rfl, Nat.le_of_ble_eq_true rfl⟩ ⟨Nat.zero_le _, Nat.zero_le _⟩ dX3_survey_99 (wb' := [k_PkO g a o (aS oS) (aC oC), k_Space g a (o+1) r1.1 r1.2.1 r16 codes counts, k_StO g aS oS, k_Sheet g aS (oS+1) (S 0 0) (S 1) (S 2) (S 3) (S 4), k_Settings g aS (oS+6) (S 5 0) (S 5 1) (S 5 2) (S 5 3) (S 5 4) (S 5 5) (S 5 6) (S 5 7) (S 5 8) (S 5 9) (S 5 10) (S 5 11), k_Places g aS (oS+7) (S 6 0) (S 7) (S 8) (S 9) (S 10) (S 11), k_Catalog g aC oC lefts tops cwidths cheights originals orients]) rfl (b_e1 rfl (b_e1 rfl (b_e1 rfl (b_e1 rfl (b_e1 rfl (b_e1 rfl b_e0)))))) 7 rfl (by decide) (st2 := []) rfl (fun H locs hw => ?_)
          exact hj102_8 r16 _ _ _ hw (lv_sub hl [1, 2, 3, 4] rfl) h
  exact hL37 g_fuel (0 : Int32) r1.2.2 _ _ _ hw (lv_sub hl [2, 3, 1, 0] rfl) h
