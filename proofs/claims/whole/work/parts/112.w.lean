set_option maxRecDepth 100000 in
set_option maxHeartbeats 4000000 in
theorem c_X6_rowOf (l : Launch) (D : va_G) (g : Nat → ClassId) (a : Nat → Nat) (o : Nat) (count : Int32) (widths : (Nat → Int32)) (heights : (Nat → Int32)) (groups : (Nat → Int32)) (rows : (Nat → Int32)) (i1 : Int32) (i2 : Int32) (u : Int32) (h : f_X6_rowOf rows i1 i2 = some u) : b_Ct l yX6_rowOf cX6_rowOf 4 (some .int) 0 0 D g [.ref (a o), .int i1, .int i2] [k_Sheet g a o count widths heights groups rows] [k_Sheet g a o count widths heights groups rows] (some (.int u)) := by
  refine b_start RX6 (by decide) rfl (Nat.le_of_ble_eq_true rfl) rfl ?_
  intro p e s m args below meth c A ls Q hQ hx hb hr hlk hml hown hT hK hA hw hl
  have hl : lv_has ls 4 [(0, .ref (a o)), (1, .int i1), (2, .int i2)] := hl
  unfold f_X6_rowOf at h
  refine lv_iload_n hx hb dX6_rowOf_0 rfl (lv_at hl 1 rfl) ?_
  refine lv_bipush (v := 8) hx hb dX6_rowOf_1 (by decide) ?_
  refine lv_imul hx hb dX6_rowOf_3 ?_
  refine lv_iload_n hx hb dX6_rowOf_4 rfl (lv_at hl 2 rfl) ?_
  refine lv_iadd hx hb dX6_rowOf_5 ?_
  obtain ⟨x1, ex1, h⟩ := g_bd_nm h
  refine g_topi ex1 ?_
  refine lv_istore_n (lv' := [(3, .int x1), (0, .ref (a o)), (1, .int i1), (2, .int i2)]) hx hb dX6_rowOf_6 rfl hl (by decide) rfl (fun ls hl => ?_)
  refine lv_iload_n hx hb dX6_rowOf_7 rfl (lv_at hl 0 rfl) ?_
  refine lv_if_lt (tgt := 29) hx hb dX6_rowOf_8 (by decide) (fun hc8 => ?_) (fun hc8 => ?_)
  · rw [if_pos hc8] at h
    refine lv_iconst (v := 0) hx hb dX6_rowOf_29 (by decide) ?_
    obtain rfl := Option.some.inj h
    exact b_iret hQ hx hb hr hlk hw rfl dX6_rowOf_30
  · rw [if_neg hc8] at h
    refine lv_iload_n hx hb dX6_rowOf_11 rfl (lv_at hl 0 rfl) ?_
    refine lv_aload_n hx hb dX6_rowOf_12 rfl (lv_at hl 1 rfl) ?_
    refine b_get hx hb hT hK hown fl_X6_21 hw 0 0 rfl rfl (v := .ref (a (o+4))) rfl dX6_rowOf_13 ?_
    refine b_alen hx hb hK hw 0 4 0 rfl rfl rfl (v := (192 : Int32)) rfl dX6_rowOf_16 ?_
    refine lv_icmp_ge (tgt := 29) hx hb dX6_rowOf_17 (by decide) (fun hc17 => ?_) (fun hc17 => ?_)
    · rw [if_pos hc17] at h
      refine lv_iconst (v := 0) hx hb dX6_rowOf_29 (by decide) ?_
      obtain rfl := Option.some.inj h
      exact b_iret hQ hx hb hr hlk hw rfl dX6_rowOf_30
    · rw [if_neg hc17] at h
      refine lv_aload_n hx hb dX6_rowOf_20 rfl (lv_at hl 1 rfl) ?_
      refine b_get hx hb hT hK hown fl_X6_21 hw 0 0 rfl rfl (v := .ref (a (o+4))) rfl dX6_rowOf_21 ?_
      refine lv_iload_n hx hb dX6_rowOf_24 rfl (lv_at hl 0 rfl) ?_
      obtain ⟨x2, ex2, hix2, h⟩ := g_rd_some h
      refine b_iald hx hb hK hw 0 4 rfl (f := rows) rfl hix2 ex2 dX6_rowOf_25 ?_
      refine lv_goto (tgt := 30) hx hb dX6_rowOf_26 (by decide) ?_
      obtain rfl := Option.some.inj h
      exact b_iret hQ hx hb hr hlk hw rfl dX6_rowOf_30
set_option maxRecDepth 100000 in
set_option maxHeartbeats 4000000 in
theorem c_X0_setTrim (l : Launch) (D : va_G) (g : Nat → ClassId) (a : Nat → Nat) (o : Nat) (lefts : (Nat → Int32)) (tops : (Nat → Int32)) (cwidths : (Nat → Int32)) (cheights : (Nat → Int32)) (originals : (Nat → Int32)) (orients : (Nat → Int32)) (i1 : Int32) (i2 : Int32) (i3 : Int32) (i4 : Int32) (i5 : Int32) (u : (Nat → Int32) × (Nat → Int32) × (Nat → Int32) × (Nat → Int32)) (h : f_X0_setTrim lefts tops cwidths cheights i1 i2 i3 i4 i5 = some u) : b_Ct l yX0_setTrim cX0_setTrim 6 none 0 0 D g [.ref (a o), .int i1, .int i2, .int i3, .int i4, .int i5] [k_Catalog g a o lefts tops cwidths cheights originals orients] [k_Catalog g a o u.1 u.2.1 u.2.2.1 u.2.2.2 originals orients] none := by
  refine b_start RX0 (by decide) rfl (Nat.le_of_ble_eq_true rfl) rfl ?_
  intro p e s m args below meth c A ls Q hQ hx hb hr hlk hml hown hT hK hA hw hl
  have hl : lv_has ls 6 [(0, .ref (a o)), (1, .int i1), (2, .int i2), (3, .int i3), (4, .int i4), (5, .int i5)] := hl
  unfold f_X0_setTrim at h
  refine lv_aload_n hx hb dX0_setTrim_0 rfl (lv_at hl 0 rfl) ?_
  refine b_get hx hb hT hK hown fl_X0_9 hw 0 0 rfl rfl (v := .ref (a (o+1))) rfl dX0_setTrim_1 ?_
  refine lv_iload_n hx hb dX0_setTrim_4 rfl (lv_at hl 1 rfl) ?_
  refine lv_iload_n hx hb dX0_setTrim_5 rfl (lv_at hl 2 rfl) ?_
  obtain ⟨f1, ef1, hif1, h⟩ := g_wr_some h
  refine b_iast hx hb hK hw 0 1 rfl (f := lefts) rfl hif1 ef1 rfl (wb' := [k_Catalog g a o f1 tops cwidths cheights originals orients]) rfl dX0_setTrim_6 (fun H locs hw => ?_)
  refine lv_aload_n hx hb dX0_setTrim_7 rfl (lv_at hl 0 rfl) ?_
  refine b_get hx hb hT hK hown fl_X0_15 hw 0 0 rfl rfl (v := .ref (a (o+2))) rfl dX0_setTrim_8 ?_
  refine lv_iload_n hx hb dX0_setTrim_11 rfl (lv_at hl 1 rfl) ?_
  refine lv_iload_n hx hb dX0_setTrim_12 rfl (lv_at hl 3 rfl) ?_
  obtain ⟨f2, ef2, hif2, h⟩ := g_wr_some h
  refine b_iast hx hb hK hw 0 2 rfl (f := tops) rfl hif2 ef2 rfl (wb' := [k_Catalog g a o f1 f2 cwidths cheights originals orients]) rfl dX0_setTrim_13 (fun H locs hw => ?_)
  refine lv_aload_n hx hb dX0_setTrim_14 rfl (lv_at hl 0 rfl) ?_
  refine b_get hx hb hT hK hown fl_X0_18 hw 0 0 rfl rfl (v := .ref (a (o+3))) rfl dX0_setTrim_15 ?_
  refine lv_iload_n hx hb dX0_setTrim_18 rfl (lv_at hl 1 rfl) ?_
  refine lv_iload hx hb dX0_setTrim_19 (lv_at hl 4 rfl) ?_
  obtain ⟨f3, ef3, hif3, h⟩ := g_wr_some h
  refine b_iast hx hb hK hw 0 3 rfl (f := cwidths) rfl hif3 ef3 rfl (wb' := [k_Catalog g a o f1 f2 f3 cheights originals orients]) rfl dX0_setTrim_21 (fun H locs hw => ?_)
  refine lv_aload_n hx hb dX0_setTrim_22 rfl (lv_at hl 0 rfl) ?_
  refine b_get hx hb hT hK hown fl_X0_21 hw 0 0 rfl rfl (v := .ref (a (o+4))) rfl dX0_setTrim_23 ?_
  refine lv_iload_n hx hb dX0_setTrim_26 rfl (lv_at hl 1 rfl) ?_
  refine lv_iload hx hb dX0_setTrim_27 (lv_at hl 5 rfl) ?_
  obtain ⟨f4, ef4, hif4, h⟩ := g_wr_some h
  refine b_iast hx hb hK hw 0 4 rfl (f := cheights) rfl hif4 ef4 rfl (wb' := [k_Catalog g a o f1 f2 f3 f4 originals orients]) rfl dX0_setTrim_29 (fun H locs hw => ?_)
  obtain rfl := Option.some.inj h
  exact b_vret hQ hx hb hr hlk hw rfl dX0_setTrim_30
set_option maxRecDepth 100000 in
set_option maxHeartbeats 4000000 in
theorem c_X0_trim (l : Launch) (D : va_G) (g : Nat → ClassId) (a : Nat → Nat) (o : Nat) (a1 : Nat → Nat) (o1 : Nat) (lefts : (Nat → Int32)) (tops : (Nat → Int32)) (cwidths : (Nat → Int32)) (cheights : (Nat → Int32)) (originals : (Nat → Int32)) (orients : (Nat → Int32)) (count : Int32) (widths : (Nat → Int32)) (heights : (Nat → Int32)) (groups : (Nat → Int32)) (rows : (Nat → Int32)) (i1 : Int32) (u : (Nat → Int32) × (Nat → Int32) × (Nat → Int32) × (Nat → Int32)) (h : f_X0_trim lefts tops cwidths cheights heights rows i1 = some u) : b_Ct l yX0_trim cX0_trim 9 none 1 25 D g [.ref (a o), .ref (a1 o1), .int i1] [k_Catalog g a o lefts tops cwidths cheights originals orients, k_Sheet g a1 o1 count widths heights groups rows] [k_Catalog g a o u.1 u.2.1 u.2.2.1 u.2.2.2 originals orients, k_Sheet g a1 o1 count widths heights groups rows] none := by
  refine b_start RX0 (by decide) rfl (Nat.le_of_ble_eq_true rfl) rfl ?_
  intro p e s m args below meth c A ls Q hQ hx hb hr hlk hml hown hT hK hA hw hl
  have hl : lv_has ls 9 [(0, .ref (a o)), (1, .ref (a1 o1)), (2, .int i1)] := hl
  unfold f_X0_trim at h
  refine lv_bipush (v := -4) hx hb dX0_trim_0 (by decide) ?_
  refine lv_istore_n (lv' := [(3, .int (-4 : Int32)), (0, .ref (a o)), (1, .ref (a1 o1)), (2, .int i1)]) hx hb dX0_trim_2 rfl hl (by decide) rfl (fun ls hl => ?_)
  refine lv_bipush (v := -4) hx hb dX0_trim_3 (by decide) ?_
  refine lv_istore (lv' := [(4, .int (-4 : Int32)), (3, .int (-4 : Int32)), (0, .ref (a o)), (1, .ref (a1 o1)), (2, .int i1)]) hx hb dX0_trim_5 hl (by decide) rfl (fun ls hl => ?_)
  refine lv_iconst (v := 0) hx hb dX0_trim_7 (by decide) ?_
  refine lv_istore (lv' := [(5, .int (0 : Int32)), (4, .int (-4 : Int32)), (3, .int (-4 : Int32)), (0, .ref (a o)), (1, .ref (a1 o1)), (2, .int i1)]) hx hb dX0_trim_8 hl (by decide) rfl (fun ls hl => ?_)
  refine lv_iconst (v := 0) hx hb dX0_trim_10 (by decide) ?_
  refine lv_istore (lv' := [(6, .int (0 : Int32)), (5, .int (0 : Int32)), (4, .int (-4 : Int32)), (3, .int (-4 : Int32)), (0, .ref (a o)), (1, .ref (a1 o1)), (2, .int i1)]) hx hb dX0_trim_11 hl (by decide) rfl (fun ls hl => ?_)
  obtain ⟨k68_3, ek68_3, h⟩ := g_jn_nm h
  have hk68_3 : ∀ (x1 : Int32) (x2 : Int32) (x3 : Int32) (H : Heap) (locs : List Loc) (ls : Array Slot), b_Wd D A s.heap H locs [k_Catalog g a o lefts tops cwidths cheights originals orients, k_Sheet g a1 o1 count widths heights groups rows] → lv_has ls 9 [(0, .ref (a o)), (2, .int i1), (3, .int x1), (4, .int x2), (5, .int x3)] → k68_3 x1 x2 x3 = some u → W p l e (g_rm 1 25) s m args below meth c H locs 0 0 Q (F0 m 68 ls []) := by
    intro x1 x2 x3 H locs ls hw hl h
    subst ek68_3
    dsimp only at h
    refine lv_iload hx hb dX0_trim_68 (lv_at hl 4 rfl) ?_
    refine lv_if_ne (tgt := 85) hx hb dX0_trim_70 (by decide) (fun hc70 => ?_) (fun hc70 => ?_)
    · rw [if_neg hc70] at h
      refine lv_bipush (v := 8) hx hb dX0_trim_85 (by decide) ?_
      refine lv_istore (lv' := [(6, .int (8 : Int32)), (0, .ref (a o)), (2, .int i1), (3, .int x1), (4, .int x2), (5, .int x3)]) hx hb dX0_trim_87 hl (by decide) rfl (fun ls hl => ?_)
      refine lv_iconst (v := 0) hx hb dX0_trim_89 (by decide) ?_
      refine lv_istore (lv' := [(7, .int (0 : Int32)), (6, .int (8 : Int32)), (0, .ref (a o)), (2, .int i1), (3, .int x1), (4, .int x2), (5, .int x3)]) hx hb dX0_trim_90 hl (by decide) rfl (fun ls hl => ?_)
      refine lv_iconst (v := 0) hx hb dX0_trim_92 (by decide) ?_
      refine lv_istore (lv' := [(8, .int (0 : Int32)), (7, .int (0 : Int32)), (6, .int (8 : Int32)), (0, .ref (a o)), (2, .int i1), (3, .int x1), (4, .int x2), (5, .int x3)]) hx hb dX0_trim_93 hl (by decide) rfl (fun ls hl => ?_)
      obtain ⟨k134_7, ek134_7, h⟩ := g_jn_nm h
      have hk134_7 : ∀ (x6 : Int32) (x7 : Int32) (H : Heap) (locs : List Loc) (ls : Array Slot), b_Wd D A s.heap H locs [k_Catalog g a o lefts tops cwidths cheights originals orients, k_Sheet g a1 o1 count widths heights groups rows] → lv_has ls 9 [(0, .ref (a o)), (2, .int i1), (3, .int x1), (4, .int x2), (6, .int x6), (7, .int x7)] → k134_7 x6 x7 = some u → W p l e (g_rm 1 25) s m args below meth c H locs 0 0 Q (F0 m 134 ls []) := by
        intro x6 x7 H locs ls hw hl h
        subst ek134_7
        dsimp only at h
        refine lv_aload_n hx hb dX0_trim_134 rfl (lv_at hl 0 rfl) ?_
        refine lv_iload_n hx hb dX0_trim_135 rfl (lv_at hl 1 rfl) ?_
        refine lv_iload hx hb dX0_trim_136 (lv_at hl 4 rfl) ?_
        refine lv_iload_n hx hb dX0_trim_138 rfl (lv_at hl 2 rfl) ?_
        refine lv_iload hx hb dX0_trim_139 (lv_at hl 5 rfl) ?_
        refine lv_iload hx hb dX0_trim_141 (lv_at hl 4 rfl) ?_
        refine lv_isub hx hb dX0_trim_143 ?_
        refine lv_iconst (v := 1) hx hb dX0_trim_144 (by decide) ?_
        refine lv_iadd hx hb dX0_trim_145 ?_
        refine lv_iload hx hb dX0_trim_146 (lv_at hl 3 rfl) ?_
        refine lv_iload_n hx hb dX0_trim_148 rfl (lv_at hl 2 rfl) ?_
        refine lv_isub hx hb dX0_trim_149 ?_
        refine lv_iconst (v := 1) hx hb dX0_trim_150 (by decide) ?_
        refine lv_iadd hx hb dX0_trim_151 ?_
        obtain ⟨r9, er9, h⟩ := g_cl_some h
        refine b_callV hx hb hml hown hT hK hA hw mk_X0_48 (c_X0_setTrim l D g a o lefts tops cwidths cheights originals orients i1 x6 x1 ((x7 - x6) + (1 : Int32)) ((x2 - x1) + (1 : Int32)) r9 er9) [0] [1] rfl (by decide) 0 0 rfl rfl rfl rfl hl.1 [] rfl (Nat.le_of_ble_eq_true rfl) ⟨Nat.le_of_ble_eq_true rfl, Nat.le_of_ble_eq_true rfl⟩ ⟨Nat.zero_le _, Nat.zero_le _⟩ dX0_trim_152 (wb' := [k_Catalog g a o r9.1 r9.2.1 r9.2.2.1 r9.2.2.2 originals orients, k_Sheet g a1 o1 count widths heights groups rows]) rfl (b_e1 rfl b_e0) 2 rfl (by decide) (st2 := []) rfl (fun H locs hw => ?_)
        obtain rfl := Option.some.inj h
        exact b_vret hQ hx hb hr hlk hw rfl dX0_trim_155
      have hL95 : ∀ (n : Nat) (x10 : Int32) (x11 : Int32) (x12 : Int32) (H : Heap) (locs : List Loc) (ls : Array Slot), b_Wd D A s.heap H locs [k_Catalog g a o lefts tops cwidths cheights originals orients, k_Sheet g a1 o1 count widths heights groups rows] → lv_has ls 9 [(0, .ref (a o)), (2, .int i1), (3, .int x1), (4, .int x2), (5, .int x3), (6, .int x10), (7, .int x11), (8, .int x12)] → f_X0_trim_L95 x3 k134_7 n x10 x11 x12 = some u → W p l e (g_rm 1 25) s m args below meth c H locs 0 0 Q (F0 m 95 ls []) := by
        intro n
        induction n with
        | zero =>
          intro x10 x11 x12 H locs ls hw hl h
          cases (show none = some u from h)
        | succ n ih95 =>
          intro x10 x11 x12 H locs ls hw hl h
          rw [f_X0_trim_L95] at h
          refine lv_iload hx hb dX0_trim_95 (lv_at hl 7 rfl) ?_
          refine lv_bipush (v := 8) hx hb dX0_trim_97 (by decide) ?_
          refine lv_icmp_ge (tgt := 134) hx hb dX0_trim_99 (by decide) (fun hc99 => ?_) (fun hc99 => ?_)
          · rw [if_pos hc99] at h
            exact hk134_7 x10 x11 _ _ _ hw (lv_sub hl [0, 1, 2, 3, 5, 6] rfl) h
          · rw [if_neg hc99] at h
            refine lv_iload hx hb dX0_trim_102 (lv_at hl 4 rfl) ?_
            refine lv_iconst (v := 4) hx hb dX0_trim_104 (by decide) ?_
            refine lv_iload hx hb dX0_trim_105 (lv_at hl 7 rfl) ?_
            refine lv_imul hx hb dX0_trim_107 ?_
            refine g_iushr hx hb dX0_trim_108 ?_
            refine lv_bipush (v := 15) hx hb dX0_trim_109 (by decide) ?_
            refine lv_iand hx hb dX0_trim_111 ?_
            obtain ⟨j128_14, ej128_14, h⟩ := g_jn_nm h
            have hj128_14 : ∀ (x13 : Int32) (x14 : Int32) (H : Heap) (locs : List Loc) (ls : Array Slot), b_Wd D A s.heap H locs [k_Catalog g a o lefts tops cwidths cheights originals orients, k_Sheet g a1 o1 count widths heights groups rows] → lv_has ls 9 [(0, .ref (a o)), (2, .int i1), (3, .int x1), (4, .int x2), (5, .int x3), (6, .int x13), (7, .int x14), (8, .int x12)] → j128_14 x13 x14 = some u → W p l e (g_rm 1 25) s m args below meth c H locs 0 0 Q (F0 m 128 ls []) := by
              intro x13 x14 H locs ls hw hl h
              subst ej128_14
              dsimp only at h
              obtain ⟨x16, ex16, h⟩ := g_bd_nm h
              refine lv_iinc (v := x16) (lv' := [(8, .int x16), (0, .ref (a o)), (2, .int i1), (3, .int x1), (4, .int x2), (5, .int x3), (6, .int x13), (7, .int x14)]) hx hb dX0_trim_128 hl (k := 7) rfl (by rw [ex16]; rfl) (by decide) rfl (fun ls hl => ?_)
              refine lv_goto (tgt := 95) hx hb dX0_trim_131 (by decide) ?_
              exact ih95 x13 x14 x16 _ _ _ hw (lv_sub hl [1, 2, 3, 4, 5, 6, 7, 0] rfl) h
            refine lv_if_eq (tgt := 128) hx hb dX0_trim_112 (by decide) (fun hc112 => ?_) (fun hc112 => ?_)
            · rw [if_pos hc112] at h
              exact hj128_14 x10 x11 _ _ _ hw (lv_sub hl [0, 1, 2, 3, 4, 5, 6, 7] rfl) h
            · rw [if_neg hc112] at h
              refine lv_iload hx hb dX0_trim_115 (lv_at hl 5 rfl) ?_
              refine lv_iload hx hb dX0_trim_117 (lv_at hl 7 rfl) ?_
              refine g_mmin hx hb hml hl.1 hown hT mm_X0_80 (Nat.le_of_ble_eq_true rfl) (Nat.le_of_ble_eq_true rfl) (Nat.zero_le _) (Nat.zero_le _) dX0_trim_119 ?_
              obtain ⟨x17, ex17, h⟩ := g_bd_nm h
              refine g_topi ex17 ?_
              refine lv_istore (lv' := [(6, .int x17), (0, .ref (a o)), (2, .int i1), (3, .int x1), (4, .int x2), (5, .int x3), (7, .int x11), (8, .int x12)]) hx hb dX0_trim_122 hl (by decide) rfl (fun ls hl => ?_)
              refine lv_iload hx hb dX0_trim_124 (lv_at hl 7 rfl) ?_
              refine lv_istore (lv' := [(7, .int x12), (6, .int x17), (0, .ref (a o)), (2, .int i1), (3, .int x1), (4, .int x2), (5, .int x3), (8, .int x12)]) hx hb dX0_trim_126 hl (by decide) rfl (fun ls hl => ?_)
              exact hj128_14 x17 x12 _ _ _ hw (lv_sub hl [2, 3, 4, 5, 6, 1, 0, 7] rfl) h
      exact hL95 g_fuel (8 : Int32) (0 : Int32) (0 : Int32) _ _ _ hw (lv_sub hl [3, 4, 5, 6, 7, 2, 1, 0] rfl) h
    · rw [if_pos hc70] at h
      refine lv_aload_n hx hb dX0_trim_73 rfl (lv_at hl 0 rfl) ?_
      refine lv_iload_n hx hb dX0_trim_74 rfl (lv_at hl 1 rfl) ?_
      refine lv_bipush (v := -4) hx hb dX0_trim_75 (by decide) ?_
      refine lv_bipush (v := -4) hx hb dX0_trim_77 (by decide) ?_
      refine lv_iconst (v := 0) hx hb dX0_trim_79 (by decide) ?_
      refine lv_iconst (v := 0) hx hb dX0_trim_80 (by decide) ?_
      obtain ⟨r5, er5, h⟩ := g_cl_some h
      refine b_callV hx hb hml hown hT hK hA hw mk_X0_48 (c_X0_setTrim l D g a o lefts tops cwidths cheights originals orients i1 (-4 : Int32) (-4 : Int32) (0 : Int32) (0 : Int32) r5 er5) [0] [1] rfl (by decide) 0 0 rfl rfl rfl rfl hl.1 [] rfl (Nat.le_of_ble_eq_true rfl) ⟨Nat.le_of_ble_eq_true rfl, Nat.le_of_ble_eq_true rfl⟩ ⟨Nat.zero_le _, Nat.zero_le _⟩ dX0_trim_81 (wb' := [k_Catalog g a o r5.1 r5.2.1 r5.2.2.1 r5.2.2.2 originals orients, k_Sheet g a1 o1 count widths heights groups rows]) rfl (b_e1 rfl b_e0) 2 rfl (by decide) (st2 := []) rfl (fun H locs hw => ?_)
      obtain rfl := Option.some.inj h
      exact b_vret hQ hx hb hr hlk hw rfl dX0_trim_84
  have hL13 : ∀ (n : Nat) (x18 : Int32) (x19 : Int32) (x20 : Int32) (x21 : Int32) (H : Heap) (locs : List Loc) (ls : Array Slot), b_Wd D A s.heap H locs [k_Catalog g a o lefts tops cwidths cheights originals orients, k_Sheet g a1 o1 count widths heights groups rows] → lv_has ls 9 [(0, .ref (a o)), (1, .ref (a1 o1)), (2, .int i1), (3, .int x18), (4, .int x19), (5, .int x20), (6, .int x21)] → f_X0_trim_L13 heights rows i1 k68_3 n x18 x19 x20 x21 = some u → W p l e (g_rm 1 25) s m args below meth c H locs 0 0 Q (F0 m 13 ls []) := by
    intro n
    induction n with
    | zero =>
      intro x18 x19 x20 x21 H locs ls hw hl h
      cases (show none = some u from h)
    | succ n ih13 =>
      intro x18 x19 x20 x21 H locs ls hw hl h
      rw [f_X0_trim_L13] at h
      refine lv_iload hx hb dX0_trim_13 (lv_at hl 6 rfl) ?_
      refine lv_aload_n hx hb dX0_trim_15 rfl (lv_at hl 1 rfl) ?_
      refine b_get hx hb hT hK hown fl_X0_47 hw 1 0 rfl rfl (v := .ref (a1 (o1+2))) rfl dX0_trim_16 ?_
      refine lv_iload_n hx hb dX0_trim_19 rfl (lv_at hl 2 rfl) ?_
      obtain ⟨x22, ex22, hix22, h⟩ := g_rd_some h
      refine b_iald hx hb hK hw 1 2 rfl (f := heights) rfl hix22 ex22 dX0_trim_20 ?_
      refine lv_icmp_ge (tgt := 68) hx hb dX0_trim_21 (by decide) (fun hc21 => ?_) (fun hc21 => ?_)
      · rw [if_pos hc21] at h
        exact hk68_3 x18 x19 x20 _ _ _ hw (lv_sub hl [0, 2, 3, 4, 5] rfl) h
      · rw [if_neg hc21] at h
        refine lv_aload_n hx hb dX0_trim_24 rfl (lv_at hl 1 rfl) ?_
        refine lv_iload_n hx hb dX0_trim_25 rfl (lv_at hl 2 rfl) ?_
        refine lv_iload hx hb dX0_trim_26 (lv_at hl 6 rfl) ?_
        obtain ⟨r23, er23, h⟩ := g_cl_some h
        refine b_callV hx hb hml hown hT hK hA hw mk_X0_76 (c_X6_rowOf l D g a1 o1 count widths heights groups rows i1 x21 r23 er23) [1] [0] rfl (by decide) 1 0 rfl rfl rfl rfl hl.1 [] rfl (Nat.le_of_ble_eq_true rfl) ⟨Nat.le_of_ble_eq_true rfl, Nat.le_of_ble_eq_true rfl⟩ ⟨Nat.zero_le _, Nat.zero_le _⟩ dX0_trim_28 (wb' := [k_Catalog g a o lefts tops cwidths cheights originals orients, k_Sheet g a1 o1 count widths heights groups rows]) rfl (b_e1 rfl b_e0) 2 rfl (by decide) (st2 := [.int r23]) rfl (fun H locs hw => ?_)
        refine lv_istore (lv' := [(7, .int r23), (0, .ref (a o)), (1, .ref (a1 o1)), (2, .int i1), (3, .int x18), (4, .int x19), (5, .int x20), (6, .int x21)]) hx hb dX0_trim_31 hl (by decide) rfl (fun ls hl => ?_)
        refine lv_iload hx hb dX0_trim_33 (lv_at hl 0 rfl) ?_
        obtain ⟨j62_26, ej62_26, h⟩ := g_jn_nm h
        have hj62_26 : ∀ (x24 : Int32) (x25 : Int32) (x26 : Int32) (H : Heap) (locs : List Loc) (ls : Array Slot), b_Wd D A s.heap H locs [k_Catalog g a o lefts tops cwidths cheights originals orients, k_Sheet g a1 o1 count widths heights groups rows] → lv_has ls 9 [(0, .ref (a o)), (1, .ref (a1 o1)), (2, .int i1), (3, .int x24), (4, .int x25), (5, .int x26), (6, .int x21)] → j62_26 x24 x25 x26 = some u → W p l e (g_rm 1 25) s m args below meth c H locs 0 0 Q (F0 m 62 ls []) := by
          intro x24 x25 x26 H locs ls hw hl h
          subst ej62_26
          dsimp only at h
          obtain ⟨x28, ex28, h⟩ := g_bd_nm h
          refine lv_iinc (v := x28) (lv' := [(6, .int x28), (0, .ref (a o)), (1, .ref (a1 o1)), (2, .int i1), (3, .int x24), (4, .int x25), (5, .int x26)]) hx hb dX0_trim_62 hl (k := 6) rfl (by rw [ex28]; rfl) (by decide) rfl (fun ls hl => ?_)
          refine lv_goto (tgt := 13) hx hb dX0_trim_65 (by decide) ?_
          exact ih13 x24 x25 x26 x28 _ _ _ hw (lv_sub hl [1, 2, 3, 4, 5, 6, 0] rfl) h
        refine lv_if_eq (tgt := 62) hx hb dX0_trim_35 (by decide) (fun hc35 => ?_) (fun hc35 => ?_)
        · rw [if_pos hc35] at h
          exact hj62_26 x18 x19 x20 _ _ _ hw (lv_sub hl [1, 2, 3, 4, 5, 6, 7] rfl) h
        · rw [if_neg hc35] at h
          refine lv_iload_n hx hb dX0_trim_38 rfl (lv_at hl 4 rfl) ?_
          refine lv_bipush (v := -4) hx hb dX0_trim_39 (by decide) ?_
          obtain ⟨j50_29, ej50_29, h⟩ := g_bd_k h
          have hj50_29 : ∀ (x29 : Int32) (H : Heap) (locs : List Loc) (ls : Array Slot), b_Wd D A s.heap H locs [k_Catalog g a o lefts tops cwidths cheights originals orients, k_Sheet g a1 o1 count widths heights groups rows] → lv_has ls 9 [(0, .ref (a o)), (1, .ref (a1 o1)), (2, .int i1), (5, .int x20), (6, .int x21), (7, .int r23)] → j50_29 x29 = some u → W p l e (g_rm 1 25) s m args below meth c H locs 0 0 Q (F0 m 50 ls [.int x29]) := by
            intro x29 H locs ls hw hl h
            subst ej50_29
            dsimp only at h
            refine lv_istore_n (lv' := [(3, .int x29), (0, .ref (a o)), (1, .ref (a1 o1)), (2, .int i1), (5, .int x20), (6, .int x21), (7, .int r23)]) hx hb dX0_trim_50 rfl hl (by decide) rfl (fun ls hl => ?_)
            refine lv_iload hx hb dX0_trim_51 (lv_at hl 5 rfl) ?_
            refine lv_istore (lv' := [(4, .int x21), (3, .int x29), (0, .ref (a o)), (1, .ref (a1 o1)), (2, .int i1), (5, .int x20), (6, .int x21), (7, .int r23)]) hx hb dX0_trim_53 hl (by decide) rfl (fun ls hl => ?_)
            refine lv_iload hx hb dX0_trim_55 (lv_at hl 5 rfl) ?_
            refine lv_iload hx hb dX0_trim_57 (lv_at hl 7 rfl) ?_
            refine lv_ior hx hb dX0_trim_59 ?_
            obtain ⟨x30, ex30, h⟩ := g_bd_nm h
            refine g_topi ex30 ?_
            refine lv_istore (lv' := [(5, .int x30), (4, .int x21), (3, .int x29), (0, .ref (a o)), (1, .ref (a1 o1)), (2, .int i1), (6, .int x21), (7, .int r23)]) hx hb dX0_trim_60 hl (by decide) rfl (fun ls hl => ?_)
            exact hj62_26 x29 x21 x30 _ _ _ hw (lv_sub hl [3, 4, 5, 2, 1, 0, 6] rfl) h
          refine lv_icmp_ne (tgt := 49) hx hb dX0_trim_41 (by decide) (fun hc41 => ?_) (fun hc41 => ?_)
          · rw [if_neg hc41] at h
            refine lv_iload_n hx hb dX0_trim_49 rfl (lv_at hl 4 rfl) ?_
            exact hj50_29 x18 _ _ _ hw (lv_sub hl [1, 2, 3, 6, 7, 0] rfl) h
          · rw [if_pos hc41] at h
            refine lv_iload hx hb dX0_trim_44 (lv_at hl 7 rfl) ?_
            refine lv_goto (tgt := 50) hx hb dX0_trim_46 (by decide) ?_
            exact hj50_29 x21 _ _ _ hw (lv_sub hl [1, 2, 3, 6, 7, 0] rfl) h
  exact hL13 g_fuel (-4 : Int32) (-4 : Int32) (0 : Int32) (0 : Int32) _ _ _ hw (lv_sub hl [4, 5, 6, 3, 2, 1, 0] rfl) h
set_option maxRecDepth 100000 in
set_option maxHeartbeats 4000000 in
theorem c_X5_matchedOrientations (l : Launch) (D : va_G) (g : Nat → ClassId) (a : Nat → Nat) (o : Nat) (pageWidth : Int32) (pageHeight : Int32) (pageLimit : Int32) (padding : Int32) (border : Int32) (extrusion : Int32) (trimming : Int32) (matching : Int32) (rotation : Int32) (grouped : Int32) (order : Int32) (way : Int32) : b_Ct l yX5_matchedOrientations cX5_matchedOrientations 1 (some .int) 0 0 D g [.ref (a o)] [k_Settings g a o pageWidth pageHeight pageLimit padding border extrusion trimming matching rotation grouped order way] [k_Settings g a o pageWidth pageHeight pageLimit padding border extrusion trimming matching rotation grouped order way] (some (.int (f_X5_matchedOrientations matching))) := by
  refine b_start RX5 (by decide) rfl (Nat.le_of_ble_eq_true rfl) rfl ?_
  intro p e s m args below meth c A ls Q hQ hx hb hr hlk hml hown hT hK hA hw hl
  have hl : lv_has ls 1 [(0, .ref (a o))] := hl
  generalize h : f_X5_matchedOrientations matching = u at hQ
  unfold f_X5_matchedOrientations at h
  refine lv_aload_n hx hb dX5_matchedOrientations_0 rfl (lv_at hl 0 rfl) ?_
  refine b_get hx hb hT hK hown fl_X5_25 hw 0 0 rfl rfl (v := .int matching) rfl dX5_matchedOrientations_1 ?_
  refine lv_if_ne (tgt := 9) hx hb dX5_matchedOrientations_4 (by decide) (fun hc4 => ?_) (fun hc4 => ?_)
  · rw [if_neg hc4] at h
    refine lv_aload_n hx hb dX5_matchedOrientations_9 rfl (lv_at hl 0 rfl) ?_
    refine b_get hx hb hT hK hown fl_X5_25 hw 0 0 rfl rfl (v := .int matching) rfl dX5_matchedOrientations_10 ?_
    refine lv_iconst (v := 1) hx hb dX5_matchedOrientations_13 (by decide) ?_
    refine lv_icmp_ne (tgt := 19) hx hb dX5_matchedOrientations_14 (by decide) (fun hc14 => ?_) (fun hc14 => ?_)
    · rw [if_neg hc14] at h
      refine lv_aload_n hx hb dX5_matchedOrientations_19 rfl (lv_at hl 0 rfl) ?_
      refine b_get hx hb hT hK hown fl_X5_25 hw 0 0 rfl rfl (v := .int matching) rfl dX5_matchedOrientations_20 ?_
      refine lv_iconst (v := 2) hx hb dX5_matchedOrientations_23 (by decide) ?_
      refine lv_icmp_ne (tgt := 31) hx hb dX5_matchedOrientations_24 (by decide) (fun hc24 => ?_) (fun hc24 => ?_)
      · rw [if_neg hc24] at h
        refine lv_bipush (v := 8) hx hb dX5_matchedOrientations_31 (by decide) ?_
        obtain rfl := h
        exact b_iret hQ hx hb hr hlk hw rfl dX5_matchedOrientations_33
      · rw [if_pos hc24] at h
        refine lv_iconst (v := 4) hx hb dX5_matchedOrientations_27 (by decide) ?_
        refine lv_goto (tgt := 33) hx hb dX5_matchedOrientations_28 (by decide) ?_
        obtain rfl := h
        exact b_iret hQ hx hb hr hlk hw rfl dX5_matchedOrientations_33
    · rw [if_pos hc14] at h
      refine lv_iconst (v := 1) hx hb dX5_matchedOrientations_17 (by decide) ?_
      obtain rfl := h
      exact b_iret hQ hx hb hr hlk hw rfl dX5_matchedOrientations_18
  · rw [if_pos hc4] at h
    refine lv_iconst (v := 0) hx hb dX5_matchedOrientations_7 (by decide) ?_
    obtain rfl := h
    exact b_iret hQ hx hb hr hlk hw rfl dX5_matchedOrientations_8
set_option maxRecDepth 100000 in
set_option maxHeartbeats 4000000 in
theorem c_X0_isBlank (l : Launch) (D : va_G) (g : Nat → ClassId) (a : Nat → Nat) (o : Nat) (lefts : (Nat → Int32)) (tops : (Nat → Int32)) (cwidths : (Nat → Int32)) (cheights : (Nat → Int32)) (originals : (Nat → Int32)) (orients : (Nat → Int32)) (i1 : Int32) (u : Int32) (h : f_X0_isBlank cwidths i1 = some u) : b_Ct l yX0_isBlank cX0_isBlank 2 (some .boolean) 0 0 D g [.ref (a o), .int i1] [k_Catalog g a o lefts tops cwidths cheights originals orients] [k_Catalog g a o lefts tops cwidths cheights originals orients] (some (.int u)) := by
  refine b_start RX0 (by decide) rfl (Nat.le_of_ble_eq_true rfl) rfl ?_
  intro p e s m args below meth c A ls Q hQ hx hb hr hlk hml hown hT hK hA hw hl
  have hl : lv_has ls 2 [(0, .ref (a o)), (1, .int i1)] := hl
  unfold f_X0_isBlank at h
  refine lv_aload_n hx hb dX0_isBlank_0 rfl (lv_at hl 0 rfl) ?_
  refine b_get hx hb hT hK hown fl_X0_18 hw 0 0 rfl rfl (v := .ref (a (o+3))) rfl dX0_isBlank_1 ?_
  refine lv_iload_n hx hb dX0_isBlank_4 rfl (lv_at hl 1 rfl) ?_
  obtain ⟨x1, ex1, hix1, h⟩ := g_rd_some h
  refine b_iald hx hb hK hw 0 3 rfl (f := cwidths) rfl hix1 ex1 dX0_isBlank_5 ?_
  refine lv_if_ne (tgt := 13) hx hb dX0_isBlank_6 (by decide) (fun hc6 => ?_) (fun hc6 => ?_)
  · rw [if_neg hc6] at h
    refine lv_iconst (v := 0) hx hb dX0_isBlank_13 (by decide) ?_
    obtain rfl := Option.some.inj h
    exact b_zret hQ hx hb hr hlk (Or.inl rfl) hw rfl dX0_isBlank_14
  · rw [if_pos hc6] at h
    refine lv_iconst (v := 1) hx hb dX0_isBlank_9 (by decide) ?_
    refine lv_goto (tgt := 14) hx hb dX0_isBlank_10 (by decide) ?_
    obtain rfl := Option.some.inj h
    exact b_zret hQ hx hb hr hlk (Or.inr rfl) hw rfl dX0_isBlank_14
set_option maxRecDepth 100000 in
set_option maxHeartbeats 4000000 in
theorem c_X0_isOriginal (l : Launch) (D : va_G) (g : Nat → ClassId) (a : Nat → Nat) (o : Nat) (lefts : (Nat → Int32)) (tops : (Nat → Int32)) (cwidths : (Nat → Int32)) (cheights : (Nat → Int32)) (originals : (Nat → Int32)) (orients : (Nat → Int32)) (i1 : Int32) (u : Int32) (h : f_X0_isOriginal cwidths originals i1 = some u) : b_Ct l yX0_isOriginal cX0_isOriginal 2 (some .boolean) 1 21 D g [.ref (a o), .int i1] [k_Catalog g a o lefts tops cwidths cheights originals orients] [k_Catalog g a o lefts tops cwidths cheights originals orients] (some (.int u)) := by
  refine b_start RX0 (by decide) rfl (Nat.le_of_ble_eq_true rfl) rfl ?_
  intro p e s m args below meth c A ls Q hQ hx hb hr hlk hml hown hT hK hA hw hl
  have hl : lv_has ls 2 [(0, .ref (a o)), (1, .int i1)] := hl
  unfold f_X0_isOriginal at h
  refine lv_aload_n hx hb dX0_isOriginal_0 rfl (lv_at hl 0 rfl) ?_
  refine lv_iload_n hx hb dX0_isOriginal_1 rfl (lv_at hl 1 rfl) ?_
  obtain ⟨r1, er1, h⟩ := g_cl_some h
  refine b_callV hx hb hml hown hT hK hA hw mk_X0_60 (c_X0_isBlank l D g a o lefts tops cwidths cheights originals orients i1 r1 er1) [0] [] rfl (by decide) 0 0 rfl rfl rfl rfl hl.1 [] rfl (Nat.le_of_ble_eq_true rfl) ⟨Nat.le_of_ble_eq_true rfl, Nat.le_of_ble_eq_true rfl⟩ ⟨Nat.zero_le _, Nat.zero_le _⟩ dX0_isOriginal_2 (wb' := [k_Catalog g a o lefts tops cwidths cheights originals orients]) rfl b_e0 1 rfl (by decide) (st2 := [.int r1]) rfl (fun H locs hw => ?_)
  refine lv_if_ne (tgt := 23) hx hb dX0_isOriginal_5 (by decide) (fun hc5 => ?_) (fun hc5 => ?_)
  · rw [if_neg hc5] at h
    refine lv_iconst (v := 0) hx hb dX0_isOriginal_23 (by decide) ?_
    obtain rfl := Option.some.inj h
    exact b_zret hQ hx hb hr hlk (Or.inl rfl) hw rfl dX0_isOriginal_24
  · rw [if_pos hc5] at h
    refine lv_aload_n hx hb dX0_isOriginal_8 rfl (lv_at hl 0 rfl) ?_
    refine b_get hx hb hT hK hown fl_X0_24 hw 0 0 rfl rfl (v := .ref (a (o+5))) rfl dX0_isOriginal_9 ?_
    refine lv_iload_n hx hb dX0_isOriginal_12 rfl (lv_at hl 1 rfl) ?_
    obtain ⟨x2, ex2, hix2, h⟩ := g_rd_some h
    refine b_iald hx hb hK hw 0 5 rfl (f := originals) rfl hix2 ex2 dX0_isOriginal_13 ?_
    refine lv_bipush (v := -4) hx hb dX0_isOriginal_14 (by decide) ?_
    refine lv_icmp_ne (tgt := 23) hx hb dX0_isOriginal_16 (by decide) (fun hc16 => ?_) (fun hc16 => ?_)
    · rw [if_neg hc16] at h
      refine lv_iconst (v := 0) hx hb dX0_isOriginal_23 (by decide) ?_
      obtain rfl := Option.some.inj h
      exact b_zret hQ hx hb hr hlk (Or.inl rfl) hw rfl dX0_isOriginal_24
    · rw [if_pos hc16] at h
      refine lv_iconst (v := 1) hx hb dX0_isOriginal_19 (by decide) ?_
      refine lv_goto (tgt := 24) hx hb dX0_isOriginal_20 (by decide) ?_
      obtain rfl := Option.some.inj h
      exact b_zret hQ hx hb hr hlk (Or.inr rfl) hw rfl dX0_isOriginal_24
set_option maxRecDepth 100000 in
set_option maxHeartbeats 4000000 in
theorem c_X6_colorAt (l : Launch) (D : va_G) (g : Nat → ClassId) (a : Nat → Nat) (o : Nat) (count : Int32) (widths : (Nat → Int32)) (heights : (Nat → Int32)) (groups : (Nat → Int32)) (rows : (Nat → Int32)) (i1 : Int32) (i2 : Int32) (i3 : Int32) (u : Int32) (h : f_X6_colorAt rows i1 i2 i3 = some u) : b_Ct l yX6_colorAt cX6_colorAt 5 (some .int) 0 0 D g [.ref (a o), .int i1, .int i2, .int i3] [k_Sheet g a o count widths heights groups rows] [k_Sheet g a o count widths heights groups rows] (some (.int u)) := by
  refine b_start RX6 (by decide) rfl (Nat.le_of_ble_eq_true rfl) rfl ?_
  intro p e s m args below meth c A ls Q hQ hx hb hr hlk hml hown hT hK hA hw hl
  have hl : lv_has ls 5 [(0, .ref (a o)), (1, .int i1), (2, .int i2), (3, .int i3)] := hl
  unfold f_X6_colorAt at h
  refine lv_iload_n hx hb dX6_colorAt_0 rfl (lv_at hl 1 rfl) ?_
  refine lv_bipush (v := 8) hx hb dX6_colorAt_1 (by decide) ?_
  refine lv_imul hx hb dX6_colorAt_3 ?_
  refine lv_iload_n hx hb dX6_colorAt_4 rfl (lv_at hl 3 rfl) ?_
  refine lv_iadd hx hb dX6_colorAt_5 ?_
  obtain ⟨x1, ex1, h⟩ := g_bd_nm h
  refine g_topi ex1 ?_
  refine lv_istore (lv' := [(4, .int x1), (0, .ref (a o)), (1, .int i1), (2, .int i2), (3, .int i3)]) hx hb dX6_colorAt_6 hl (by decide) rfl (fun ls hl => ?_)
  refine lv_iload hx hb dX6_colorAt_8 (lv_at hl 0 rfl) ?_
  refine lv_if_lt (tgt := 40) hx hb dX6_colorAt_10 (by decide) (fun hc10 => ?_) (fun hc10 => ?_)
  · rw [if_pos hc10] at h
    refine lv_iconst (v := 0) hx hb dX6_colorAt_40 (by decide) ?_
    obtain rfl := Option.some.inj h
    exact b_iret hQ hx hb hr hlk hw rfl dX6_colorAt_41
  · rw [if_neg hc10] at h
    refine lv_iload hx hb dX6_colorAt_13 (lv_at hl 0 rfl) ?_
    refine lv_aload_n hx hb dX6_colorAt_15 rfl (lv_at hl 1 rfl) ?_
    refine b_get hx hb hT hK hown fl_X6_21 hw 0 0 rfl rfl (v := .ref (a (o+4))) rfl dX6_colorAt_16 ?_
    refine b_alen hx hb hK hw 0 4 0 rfl rfl rfl (v := (192 : Int32)) rfl dX6_colorAt_19 ?_
    refine lv_icmp_ge (tgt := 40) hx hb dX6_colorAt_20 (by decide) (fun hc20 => ?_) (fun hc20 => ?_)
    · rw [if_pos hc20] at h
      refine lv_iconst (v := 0) hx hb dX6_colorAt_40 (by decide) ?_
      obtain rfl := Option.some.inj h
      exact b_iret hQ hx hb hr hlk hw rfl dX6_colorAt_41
    · rw [if_neg hc20] at h
      refine lv_aload_n hx hb dX6_colorAt_23 rfl (lv_at hl 1 rfl) ?_
      refine b_get hx hb hT hK hown fl_X6_21 hw 0 0 rfl rfl (v := .ref (a (o+4))) rfl dX6_colorAt_24 ?_
      refine lv_iload hx hb dX6_colorAt_27 (lv_at hl 0 rfl) ?_
      obtain ⟨x2, ex2, hix2, h⟩ := g_rd_some h
      refine b_iald hx hb hK hw 0 4 rfl (f := rows) rfl hix2 ex2 dX6_colorAt_29 ?_
      refine lv_iconst (v := 4) hx hb dX6_colorAt_30 (by decide) ?_
      refine lv_iload_n hx hb dX6_colorAt_31 rfl (lv_at hl 3 rfl) ?_
      refine lv_imul hx hb dX6_colorAt_32 ?_
      refine g_iushr hx hb dX6_colorAt_33 ?_
      refine lv_bipush (v := 15) hx hb dX6_colorAt_34 (by decide) ?_
      refine lv_iand hx hb dX6_colorAt_36 ?_
      refine lv_goto (tgt := 41) hx hb dX6_colorAt_37 (by decide) ?_
      obtain rfl := Option.some.inj h
      exact b_iret hQ hx hb hr hlk hw rfl dX6_colorAt_41
set_option maxRecDepth 100000 in
set_option maxHeartbeats 4000000 in
theorem c_X0_colorIn (l : Launch) (D : va_G) (g : Nat → ClassId) (a : Nat → Nat) (o : Nat) (a1 : Nat → Nat) (o1 : Nat) (lefts : (Nat → Int32)) (tops : (Nat → Int32)) (cwidths : (Nat → Int32)) (cheights : (Nat → Int32)) (originals : (Nat → Int32)) (orients : (Nat → Int32)) (count : Int32) (widths : (Nat → Int32)) (heights : (Nat → Int32)) (groups : (Nat → Int32)) (rows : (Nat → Int32)) (i1 : Int32) (i2 : Int32) (i3 : Int32) (i4 : Int32) (u : Int32) (h : f_X0_colorIn lefts tops cwidths cheights rows i1 i2 i3 i4 = some u) : b_Ct l yX0_colorIn cX0_colorIn 11 (some .int) 1 24 D g [.ref (a o), .ref (a1 o1), .int i1, .int i2, .int i3, .int i4] [k_Catalog g a o lefts tops cwidths cheights originals orients, k_Sheet g a1 o1 count widths heights groups rows] [k_Catalog g a o lefts tops cwidths cheights originals orients, k_Sheet g a1 o1 count widths heights groups rows] (some (.int u)) := by
  refine b_start RX0 (by decide) rfl (Nat.le_of_ble_eq_true rfl) rfl ?_
  intro p e s m args below meth c A ls Q hQ hx hb hr hlk hml hown hT hK hA hw hl
  have hl : lv_has ls 11 [(0, .ref (a o)), (1, .ref (a1 o1)), (2, .int i1), (3, .int i2), (4, .int i3), (5, .int i4)] := hl
  unfold f_X0_colorIn at h
  refine lv_aload_n hx hb dX0_colorIn_0 rfl (lv_at hl 0 rfl) ?_
  refine b_get hx hb hT hK hown fl_X0_18 hw 0 0 rfl rfl (v := .ref (a (o+3))) rfl dX0_colorIn_1 ?_
  refine lv_iload_n hx hb dX0_colorIn_4 rfl (lv_at hl 2 rfl) ?_
  obtain ⟨x1, ex1, hix1, h⟩ := g_rd_some h
  refine b_iald hx hb hK hw 0 3 rfl (f := cwidths) rfl hix1 ex1 dX0_colorIn_5 ?_
  refine lv_iconst (v := 1) hx hb dX0_colorIn_6 (by decide) ?_
  refine lv_isub hx hb dX0_colorIn_7 ?_
  obtain ⟨x2, ex2, h⟩ := g_bd_nm h
  refine g_topi ex2 ?_
  refine lv_istore (lv' := [(6, .int x2), (0, .ref (a o)), (1, .ref (a1 o1)), (2, .int i1), (3, .int i2), (4, .int i3), (5, .int i4)]) hx hb dX0_colorIn_8 hl (by decide) rfl (fun ls hl => ?_)
  refine lv_aload_n hx hb dX0_colorIn_10 rfl (lv_at hl 1 rfl) ?_
  refine b_get hx hb hT hK hown fl_X0_21 hw 0 0 rfl rfl (v := .ref (a (o+4))) rfl dX0_colorIn_11 ?_
  refine lv_iload_n hx hb dX0_colorIn_14 rfl (lv_at hl 3 rfl) ?_
  obtain ⟨x3, ex3, hix3, h⟩ := g_rd_some h
  refine b_iald hx hb hK hw 0 4 rfl (f := cheights) rfl hix3 ex3 dX0_colorIn_15 ?_
  refine lv_iconst (v := 1) hx hb dX0_colorIn_16 (by decide) ?_
  refine lv_isub hx hb dX0_colorIn_17 ?_
  obtain ⟨x4, ex4, h⟩ := g_bd_nm h
  refine g_topi ex4 ?_
  refine lv_istore (lv' := [(7, .int x4), (6, .int x2), (0, .ref (a o)), (1, .ref (a1 o1)), (2, .int i1), (3, .int i2), (4, .int i3), (5, .int i4)]) hx hb dX0_colorIn_18 hl (by decide) rfl (fun ls hl => ?_)
  refine lv_iload_n hx hb dX0_colorIn_20 rfl (lv_at hl 5 rfl) ?_
  refine lv_iconst (v := 4) hx hb dX0_colorIn_21 (by decide) ?_
  refine g_irem hx hb dX0_colorIn_22 (by decide) ?_
  obtain ⟨x5, ex5, h⟩ := g_bd_nm h
  refine g_topi ex5 ?_
  refine lv_istore (lv' := [(8, .int x5), (7, .int x4), (6, .int x2), (0, .ref (a o)), (1, .ref (a1 o1)), (2, .int i1), (3, .int i2), (4, .int i3), (5, .int i4)]) hx hb dX0_colorIn_23 hl (by decide) rfl (fun ls hl => ?_)
  refine lv_iload hx hb dX0_colorIn_25 (lv_at hl 7 rfl) ?_
  refine lv_istore (lv' := [(9, .int i3), (8, .int x5), (7, .int x4), (6, .int x2), (0, .ref (a o)), (1, .ref (a1 o1)), (2, .int i1), (3, .int i2), (4, .int i3), (5, .int i4)]) hx hb dX0_colorIn_27 hl (by decide) rfl (fun ls hl => ?_)
  refine lv_iload hx hb dX0_colorIn_29 (lv_at hl 9 rfl) ?_
  refine lv_istore (lv' := [(10, .int i4), (9, .int i3), (8, .int x5), (7, .int x4), (6, .int x2), (0, .ref (a o)), (1, .ref (a1 o1)), (2, .int i1), (3, .int i2), (4, .int i3), (5, .int i4)]) hx hb dX0_colorIn_31 hl (by decide) rfl (fun ls hl => ?_)
  refine lv_iload hx hb dX0_colorIn_33 (lv_at hl 2 rfl) ?_
  refine lv_iconst (v := 1) hx hb dX0_colorIn_35 (by decide) ?_
  obtain ⟨j93_7, ej93_7, h⟩ := g_jn_nm h
  have hj93_7 : ∀ (x6 : Int32) (x7 : Int32) (H : Heap) (locs : List Loc) (ls : Array Slot), b_Wd D A s.heap H locs [k_Catalog g a o lefts tops cwidths cheights originals orients, k_Sheet g a1 o1 count widths heights groups rows] → lv_has ls 11 [(0, .ref (a o)), (1, .ref (a1 o1)), (2, .int i1), (3, .int i2), (6, .int x2), (9, .int x6), (10, .int x7)] → j93_7 x6 x7 = some u → W p l e (g_rm 1 24) s m args below meth c H locs 0 0 Q (F0 m 93 ls []) := by
    intro x6 x7 H locs ls hw hl h
    subst ej93_7
    dsimp only at h
    refine lv_iload_n hx hb dX0_colorIn_93 rfl (lv_at hl 3 rfl) ?_
    refine lv_iconst (v := 4) hx hb dX0_colorIn_94 (by decide) ?_
    obtain ⟨j105_9, ej105_9, h⟩ := g_bd_k h
    have hj105_9 : ∀ (x9 : Int32) (H : Heap) (locs : List Loc) (ls : Array Slot), b_Wd D A s.heap H locs [k_Catalog g a o lefts tops cwidths cheights originals orients, k_Sheet g a1 o1 count widths heights groups rows] → lv_has ls 11 [(0, .ref (a o)), (1, .ref (a1 o1)), (2, .int i1), (9, .int x9), (10, .int x7)] → j105_9 x9 = some u → W p l e (g_rm 1 24) s m args below meth c H locs 0 0 Q (F0 m 105 ls []) := by
      intro x9 H locs ls hw hl h
      subst ej105_9
      dsimp only at h
      refine lv_aload_n hx hb dX0_colorIn_105 rfl (lv_at hl 1 rfl) ?_
      refine lv_iload_n hx hb dX0_colorIn_106 rfl (lv_at hl 2 rfl) ?_
      refine lv_aload_n hx hb dX0_colorIn_107 rfl (lv_at hl 0 rfl) ?_
      refine b_get hx hb hT hK hown fl_X0_9 hw 0 0 rfl rfl (v := .ref (a (o+1))) rfl dX0_colorIn_108 ?_
      refine lv_iload_n hx hb dX0_colorIn_111 rfl (lv_at hl 2 rfl) ?_
      obtain ⟨x10, ex10, hix10, h⟩ := g_rd_some h
      refine b_iald hx hb hK hw 0 1 rfl (f := lefts) rfl hix10 ex10 dX0_colorIn_112 ?_
      refine lv_iload hx hb dX0_colorIn_113 (lv_at hl 3 rfl) ?_
      refine lv_iadd hx hb dX0_colorIn_115 ?_
      refine lv_aload_n hx hb dX0_colorIn_116 rfl (lv_at hl 0 rfl) ?_
      refine b_get hx hb hT hK hown fl_X0_15 hw 0 0 rfl rfl (v := .ref (a (o+2))) rfl dX0_colorIn_117 ?_
      refine lv_iload_n hx hb dX0_colorIn_120 rfl (lv_at hl 2 rfl) ?_
      obtain ⟨x11, ex11, hix11, h⟩ := g_rd_some h
      refine b_iald hx hb hK hw 0 2 rfl (f := tops) rfl hix11 ex11 dX0_colorIn_121 ?_
      refine lv_iload hx hb dX0_colorIn_122 (lv_at hl 4 rfl) ?_
      refine lv_iadd hx hb dX0_colorIn_124 ?_
      obtain ⟨r12, er12, h⟩ := g_cl_some h
      refine b_callV hx hb hml hown hT hK hA hw mk_X0_72 (c_X6_colorAt l D g a1 o1 count widths heights groups rows i1 (x10 + x9) (x11 + x7) r12 er12) [1] [0] rfl (by decide) 1 0 rfl rfl rfl rfl hl.1 [] rfl (Nat.le_of_ble_eq_true rfl) ⟨Nat.le_of_ble_eq_true rfl, Nat.le_of_ble_eq_true rfl⟩ ⟨Nat.zero_le _, Nat.zero_le _⟩ dX0_colorIn_125 (wb' := [k_Catalog g a o lefts tops cwidths cheights originals orients, k_Sheet g a1 o1 count widths heights groups rows]) rfl (b_e1 rfl b_e0) 2 rfl (by decide) (st2 := [.int r12]) rfl (fun H locs hw => ?_)
      obtain rfl := Option.some.inj h
      exact b_iret hQ hx hb hr hlk hw rfl dX0_colorIn_128
    refine lv_icmp_lt (tgt := 105) hx hb dX0_colorIn_95 (by decide) (fun hc95 => ?_) (fun hc95 => ?_)
    · rw [if_pos hc95] at h
      exact hj105_9 x6 _ _ _ hw (lv_sub hl [0, 1, 2, 5, 6] rfl) h
    · rw [if_neg hc95] at h
      refine lv_iload hx hb dX0_colorIn_98 (lv_at hl 4 rfl) ?_
      refine lv_iload hx hb dX0_colorIn_100 (lv_at hl 5 rfl) ?_
      refine lv_isub hx hb dX0_colorIn_102 ?_
      refine lv_istore (lv' := [(9, .int (x2 - x6)), (0, .ref (a o)), (1, .ref (a1 o1)), (2, .int i1), (3, .int i2), (6, .int x2), (10, .int x7)]) hx hb dX0_colorIn_103 hl (by decide) rfl (fun ls hl => ?_)
      exact hj105_9 (x2 - x6) _ _ _ hw (lv_sub hl [1, 2, 3, 0, 6] rfl) h
  refine lv_icmp_ne (tgt := 53) hx hb dX0_colorIn_36 (by decide) (fun hc36 => ?_) (fun hc36 => ?_)
  · rw [if_neg hc36] at h
    refine lv_iload hx hb dX0_colorIn_53 (lv_at hl 2 rfl) ?_
    refine lv_iconst (v := 2) hx hb dX0_colorIn_55 (by decide) ?_
    refine lv_icmp_ne (tgt := 76) hx hb dX0_colorIn_56 (by decide) (fun hc56 => ?_) (fun hc56 => ?_)
    · rw [if_neg hc56] at h
      refine lv_iload hx hb dX0_colorIn_76 (lv_at hl 2 rfl) ?_
      refine lv_iconst (v := 3) hx hb dX0_colorIn_78 (by decide) ?_
      refine lv_icmp_ne (tgt := 93) hx hb dX0_colorIn_79 (by decide) (fun hc79 => ?_) (fun hc79 => ?_)
      · rw [if_neg hc79] at h
        exact hj93_7 i3 i4 _ _ _ hw (lv_sub hl [5, 6, 7, 8, 4, 1, 0] rfl) h
      · rw [if_pos hc79] at h
        refine lv_iload hx hb dX0_colorIn_82 (lv_at hl 4 rfl) ?_
        refine lv_iload hx hb dX0_colorIn_84 (lv_at hl 10 rfl) ?_
        refine lv_isub hx hb dX0_colorIn_86 ?_
        obtain ⟨x16, ex16, h⟩ := g_bd_nm h
        refine g_topi ex16 ?_
        refine lv_istore (lv' := [(9, .int x16), (10, .int i4), (8, .int x5), (7, .int x4), (6, .int x2), (0, .ref (a o)), (1, .ref (a1 o1)), (2, .int i1), (3, .int i2), (4, .int i3), (5, .int i4)]) hx hb dX0_colorIn_87 hl (by decide) rfl (fun ls hl => ?_)
        refine lv_iload hx hb dX0_colorIn_89 (lv_at hl 9 rfl) ?_
        refine lv_istore (lv' := [(10, .int i3), (9, .int x16), (8, .int x5), (7, .int x4), (6, .int x2), (0, .ref (a o)), (1, .ref (a1 o1)), (2, .int i1), (3, .int i2), (4, .int i3), (5, .int i4)]) hx hb dX0_colorIn_91 hl (by decide) rfl (fun ls hl => ?_)
        exact hj93_7 x16 i3 _ _ _ hw (lv_sub hl [5, 6, 7, 8, 4, 1, 0] rfl) h
    · rw [if_pos hc56] at h
      refine lv_iload hx hb dX0_colorIn_59 (lv_at hl 4 rfl) ?_
      refine lv_iload hx hb dX0_colorIn_61 (lv_at hl 9 rfl) ?_
      refine lv_isub hx hb dX0_colorIn_63 ?_
      obtain ⟨x14, ex14, h⟩ := g_bd_nm h
      refine g_topi ex14 ?_
      refine lv_istore (lv' := [(9, .int x14), (10, .int i4), (8, .int x5), (7, .int x4), (6, .int x2), (0, .ref (a o)), (1, .ref (a1 o1)), (2, .int i1), (3, .int i2), (4, .int i3), (5, .int i4)]) hx hb dX0_colorIn_64 hl (by decide) rfl (fun ls hl => ?_)
      refine lv_iload hx hb dX0_colorIn_66 (lv_at hl 3 rfl) ?_
      refine lv_iload hx hb dX0_colorIn_68 (lv_at hl 10 rfl) ?_
      refine lv_isub hx hb dX0_colorIn_70 ?_
      obtain ⟨x15, ex15, h⟩ := g_bd_nm h
      refine g_topi ex15 ?_
      refine lv_istore (lv' := [(10, .int x15), (9, .int x14), (8, .int x5), (7, .int x4), (6, .int x2), (0, .ref (a o)), (1, .ref (a1 o1)), (2, .int i1), (3, .int i2), (4, .int i3), (5, .int i4)]) hx hb dX0_colorIn_71 hl (by decide) rfl (fun ls hl => ?_)
      refine lv_goto (tgt := 93) hx hb dX0_colorIn_73 (by decide) ?_
      exact hj93_7 x14 x15 _ _ _ hw (lv_sub hl [5, 6, 7, 8, 4, 1, 0] rfl) h
  · rw [if_pos hc36] at h
    refine lv_iload hx hb dX0_colorIn_39 (lv_at hl 10 rfl) ?_
    refine lv_istore (lv' := [(9, .int i4), (10, .int i4), (8, .int x5), (7, .int x4), (6, .int x2), (0, .ref (a o)), (1, .ref (a1 o1)), (2, .int i1), (3, .int i2), (4, .int i3), (5, .int i4)]) hx hb dX0_colorIn_41 hl (by decide) rfl (fun ls hl => ?_)
    refine lv_iload hx hb dX0_colorIn_43 (lv_at hl 3 rfl) ?_
    refine lv_iload hx hb dX0_colorIn_45 (lv_at hl 9 rfl) ?_
    refine lv_isub hx hb dX0_colorIn_47 ?_
    obtain ⟨x13, ex13, h⟩ := g_bd_nm h
    refine g_topi ex13 ?_
    refine lv_istore (lv' := [(10, .int x13), (9, .int i4), (8, .int x5), (7, .int x4), (6, .int x2), (0, .ref (a o)), (1, .ref (a1 o1)), (2, .int i1), (3, .int i2), (4, .int i3), (5, .int i4)]) hx hb dX0_colorIn_48 hl (by decide) rfl (fun ls hl => ?_)
    refine lv_goto (tgt := 93) hx hb dX0_colorIn_50 (by decide) ?_
    exact hj93_7 i4 x13 _ _ _ hw (lv_sub hl [5, 6, 7, 8, 4, 1, 0] rfl) h
