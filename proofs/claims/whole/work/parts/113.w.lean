set_option maxRecDepth 100000 in
set_option maxHeartbeats 4000000 in
theorem c_X0_matches (l : Launch) (D : va_G) (g : Nat → ClassId) (a : Nat → Nat) (o : Nat) (a1 : Nat → Nat) (o1 : Nat) (lefts : (Nat → Int32)) (tops : (Nat → Int32)) (cwidths : (Nat → Int32)) (cheights : (Nat → Int32)) (originals : (Nat → Int32)) (orients : (Nat → Int32)) (count : Int32) (widths : (Nat → Int32)) (heights : (Nat → Int32)) (groups : (Nat → Int32)) (rows : (Nat → Int32)) (i1 : Int32) (i2 : Int32) (i3 : Int32) (u : Int32) (h : f_X0_matches lefts tops cwidths cheights rows i1 i2 i3 = some u) : b_Ct l yX0_matches cX0_matches 10 (some .boolean) 2 54 D g [.ref (a o), .ref (a1 o1), .int i1, .int i2, .int i3] [k_Catalog g a o lefts tops cwidths cheights originals orients, k_Sheet g a1 o1 count widths heights groups rows] [k_Catalog g a o lefts tops cwidths cheights originals orients, k_Sheet g a1 o1 count widths heights groups rows] (some (.int u)) := by
  refine b_start RX0 (by decide) rfl (Nat.le_of_ble_eq_true rfl) rfl ?_
  intro p e s m args below meth c A ls Q hQ hx hb hr hlk hml hown hT hK hA hw hl
  have hl : lv_has ls 10 [(0, .ref (a o)), (1, .ref (a1 o1)), (2, .int i1), (3, .int i2), (4, .int i3)] := hl
  unfold f_X0_matches at h
  refine lv_iload hx hb dX0_matches_0 (lv_at hl 4 rfl) ?_
  refine lv_iconst (v := 2) hx hb dX0_matches_2 (by decide) ?_
  refine g_irem hx hb dX0_matches_3 (by decide) ?_
  refine lv_iconst (v := 1) hx hb dX0_matches_4 (by decide) ?_
  obtain ⟨j13_1, ej13_1, h⟩ := g_bd_k h
  have hj13_1 : ∀ (x1 : Int32) (H : Heap) (locs : List Loc) (ls : Array Slot), b_Wd D A s.heap H locs [k_Catalog g a o lefts tops cwidths cheights originals orients, k_Sheet g a1 o1 count widths heights groups rows] → lv_has ls 10 [(0, .ref (a o)), (1, .ref (a1 o1)), (2, .int i1), (3, .int i2), (4, .int i3)] → j13_1 x1 = some u → W p l e (g_rm 2 54) s m args below meth c H locs 0 0 Q (F0 m 13 ls [.int x1]) := by
    intro x1 H locs ls hw hl h
    subst ej13_1
    dsimp only at h
    refine lv_istore (lv' := [(5, .int x1), (0, .ref (a o)), (1, .ref (a1 o1)), (2, .int i1), (3, .int i2), (4, .int i3)]) hx hb dX0_matches_13 hl (by decide) rfl (fun ls hl => ?_)
    refine lv_iload hx hb dX0_matches_15 (lv_at hl 0 rfl) ?_
    obtain ⟨j35_2, ej35_2, h⟩ := g_jn_nm h
    have hj35_2 : ∀ (x2 : Int32) (H : Heap) (locs : List Loc) (ls : Array Slot), b_Wd D A s.heap H locs [k_Catalog g a o lefts tops cwidths cheights originals orients, k_Sheet g a1 o1 count widths heights groups rows] → lv_has ls 10 [(0, .ref (a o)), (1, .ref (a1 o1)), (2, .int i1), (3, .int i2), (4, .int i3), (5, .int x1)] → j35_2 x2 = some u → W p l e (g_rm 2 54) s m args below meth c H locs 0 0 Q (F0 m 35 ls [.int x2]) := by
      intro x2 H locs ls hw hl h
      subst ej35_2
      dsimp only at h
      refine lv_istore (lv' := [(6, .int x2), (0, .ref (a o)), (1, .ref (a1 o1)), (2, .int i1), (3, .int i2), (4, .int i3), (5, .int x1)]) hx hb dX0_matches_35 hl (by decide) rfl (fun ls hl => ?_)
      refine lv_iload hx hb dX0_matches_37 (lv_at hl 6 rfl) ?_
      obtain ⟨j57_4, ej57_4, h⟩ := g_jn_nm h
      have hj57_4 : ∀ (x4 : Int32) (H : Heap) (locs : List Loc) (ls : Array Slot), b_Wd D A s.heap H locs [k_Catalog g a o lefts tops cwidths cheights originals orients, k_Sheet g a1 o1 count widths heights groups rows] → lv_has ls 10 [(0, .ref (a o)), (1, .ref (a1 o1)), (2, .int i1), (3, .int i2), (4, .int i3), (6, .int x2)] → j57_4 x4 = some u → W p l e (g_rm 2 54) s m args below meth c H locs 0 0 Q (F0 m 57 ls [.int x4]) := by
        intro x4 H locs ls hw hl h
        subst ej57_4
        dsimp only at h
        refine lv_istore (lv' := [(7, .int x4), (0, .ref (a o)), (1, .ref (a1 o1)), (2, .int i1), (3, .int i2), (4, .int i3), (6, .int x2)]) hx hb dX0_matches_57 hl (by decide) rfl (fun ls hl => ?_)
        refine lv_aload_n hx hb dX0_matches_59 rfl (lv_at hl 1 rfl) ?_
        refine b_get hx hb hT hK hown fl_X0_18 hw 0 0 rfl rfl (v := .ref (a (o+3))) rfl dX0_matches_60 ?_
        refine lv_iload_n hx hb dX0_matches_63 rfl (lv_at hl 3 rfl) ?_
        obtain ⟨x6, ex6, hix6, h⟩ := g_rd_some h
        refine b_iald hx hb hK hw 0 3 rfl (f := cwidths) rfl hix6 ex6 dX0_matches_64 ?_
        refine lv_iload hx hb dX0_matches_65 (lv_at hl 6 rfl) ?_
        refine lv_icmp_ne (tgt := 81) hx hb dX0_matches_67 (by decide) (fun hc67 => ?_) (fun hc67 => ?_)
        · rw [if_neg hc67] at h
          refine lv_iconst (v := 0) hx hb dX0_matches_81 (by decide) ?_
          obtain rfl := Option.some.inj h
          exact b_zret hQ hx hb hr hlk (Or.inl rfl) hw rfl dX0_matches_82
        · rw [if_pos hc67] at h
          refine lv_aload_n hx hb dX0_matches_70 rfl (lv_at hl 1 rfl) ?_
          refine b_get hx hb hT hK hown fl_X0_21 hw 0 0 rfl rfl (v := .ref (a (o+4))) rfl dX0_matches_71 ?_
          refine lv_iload_n hx hb dX0_matches_74 rfl (lv_at hl 3 rfl) ?_
          obtain ⟨x7, ex7, hix7, h⟩ := g_rd_some h
          refine b_iald hx hb hK hw 0 4 rfl (f := cheights) rfl hix7 ex7 dX0_matches_75 ?_
          refine lv_iload hx hb dX0_matches_76 (lv_at hl 0 rfl) ?_
          refine lv_icmp_eq (tgt := 83) hx hb dX0_matches_78 (by decide) (fun hc78 => ?_) (fun hc78 => ?_)
          · rw [if_pos hc78] at h
            refine lv_iconst (v := 0) hx hb dX0_matches_83 (by decide) ?_
            refine lv_istore (lv' := [(8, .int (0 : Int32)), (7, .int x4), (0, .ref (a o)), (1, .ref (a1 o1)), (2, .int i1), (3, .int i2), (4, .int i3), (6, .int x2)]) hx hb dX0_matches_84 hl (by decide) rfl (fun ls hl => ?_)
            have hL86 : ∀ (n : Nat) (x8 : Int32) (H : Heap) (locs : List Loc) (ls : Array Slot), b_Wd D A s.heap H locs [k_Catalog g a o lefts tops cwidths cheights originals orients, k_Sheet g a1 o1 count widths heights groups rows] → lv_has ls 10 [(0, .ref (a o)), (1, .ref (a1 o1)), (2, .int i1), (3, .int i2), (4, .int i3), (6, .int x2), (7, .int x4), (8, .int x8)] → f_X0_matches_L86 lefts tops cwidths cheights rows i1 i2 i3 x2 x4 n x8 = some u → W p l e (g_rm 2 54) s m args below meth c H locs 0 0 Q (F0 m 86 ls []) := by
              intro n
              induction n with
              | zero =>
                intro x8 H locs ls hw hl h
                cases (show none = some u from h)
              | succ n ih86 =>
                intro x8 H locs ls hw hl h
                rw [f_X0_matches_L86] at h
                refine lv_iload hx hb dX0_matches_86 (lv_at hl 7 rfl) ?_
                refine lv_iload hx hb dX0_matches_88 (lv_at hl 6 rfl) ?_
                refine lv_icmp_ge (tgt := 143) hx hb dX0_matches_90 (by decide) (fun hc90 => ?_) (fun hc90 => ?_)
                · rw [if_pos hc90] at h
                  refine lv_iconst (v := 1) hx hb dX0_matches_143 (by decide) ?_
                  obtain rfl := Option.some.inj h
                  exact b_zret hQ hx hb hr hlk (Or.inr rfl) hw rfl dX0_matches_144
                · rw [if_neg hc90] at h
                  refine lv_iconst (v := 0) hx hb dX0_matches_93 (by decide) ?_
                  refine lv_istore (lv' := [(9, .int (0 : Int32)), (0, .ref (a o)), (1, .ref (a1 o1)), (2, .int i1), (3, .int i2), (4, .int i3), (6, .int x2), (7, .int x4), (8, .int x8)]) hx hb dX0_matches_94 hl (by decide) rfl (fun ls hl => ?_)
                  obtain ⟨k137_8, ek137_8, h⟩ := g_jn_nm h
                  have hk137_8 : ∀ (H : Heap) (locs : List Loc) (ls : Array Slot), b_Wd D A s.heap H locs [k_Catalog g a o lefts tops cwidths cheights originals orients, k_Sheet g a1 o1 count widths heights groups rows] → lv_has ls 10 [(0, .ref (a o)), (1, .ref (a1 o1)), (2, .int i1), (3, .int i2), (4, .int i3), (6, .int x2), (7, .int x4), (8, .int x8)] → k137_8 = some u → W p l e (g_rm 2 54) s m args below meth c H locs 0 0 Q (F0 m 137 ls []) := by
                    intro  H locs ls hw hl h
                    subst ek137_8
                    obtain ⟨x10, ex10, h⟩ := g_bd_nm h
                    refine lv_iinc (v := x10) (lv' := [(8, .int x10), (0, .ref (a o)), (1, .ref (a1 o1)), (2, .int i1), (3, .int i2), (4, .int i3), (6, .int x2), (7, .int x4)]) hx hb dX0_matches_137 hl (k := 7) rfl (by rw [ex10]; rfl) (by decide) rfl (fun ls hl => ?_)
                    refine lv_goto (tgt := 86) hx hb dX0_matches_140 (by decide) ?_
                    exact ih86 x10 _ _ _ hw (lv_sub hl [1, 2, 3, 4, 5, 6, 7, 0] rfl) h
                  have hL96 : ∀ (n : Nat) (x11 : Int32) (H : Heap) (locs : List Loc) (ls : Array Slot), b_Wd D A s.heap H locs [k_Catalog g a o lefts tops cwidths cheights originals orients, k_Sheet g a1 o1 count widths heights groups rows] → lv_has ls 10 [(0, .ref (a o)), (1, .ref (a1 o1)), (2, .int i1), (3, .int i2), (4, .int i3), (6, .int x2), (7, .int x4), (8, .int x8), (9, .int x11)] → f_X0_matches_L96 lefts tops cwidths cheights rows i1 i2 i3 x2 x8 k137_8 n x11 = some u → W p l e (g_rm 2 54) s m args below meth c H locs 0 0 Q (F0 m 96 ls []) := by
                    intro n
                    induction n with
                    | zero =>
                      intro x11 H locs ls hw hl h
                      cases (show none = some u from h)
                    | succ n ih96 =>
                      intro x11 H locs ls hw hl h
                      rw [f_X0_matches_L96] at h
                      refine lv_iload hx hb dX0_matches_96 (lv_at hl 8 rfl) ?_
                      refine lv_iload hx hb dX0_matches_98 (lv_at hl 5 rfl) ?_
                      refine lv_icmp_ge (tgt := 137) hx hb dX0_matches_100 (by decide) (fun hc100 => ?_) (fun hc100 => ?_)
                      · rw [if_pos hc100] at h
                        exact hk137_8  _ _ _ hw (lv_sub hl [0, 1, 2, 3, 4, 5, 6, 7] rfl) h
                      · rw [if_neg hc100] at h
                        refine lv_aload_n hx hb dX0_matches_103 rfl (lv_at hl 0 rfl) ?_
                        refine lv_aload_n hx hb dX0_matches_104 rfl (lv_at hl 1 rfl) ?_
                        refine lv_iload_n hx hb dX0_matches_105 rfl (lv_at hl 2 rfl) ?_
                        refine lv_iconst (v := 0) hx hb dX0_matches_106 (by decide) ?_
                        refine lv_iload hx hb dX0_matches_107 (lv_at hl 8 rfl) ?_
                        refine lv_iload hx hb dX0_matches_109 (lv_at hl 7 rfl) ?_
                        obtain ⟨r12, er12, h⟩ := g_cl_some h
                        refine b_callV hx hb hml hown hT hK hA hw mk_X0_88 (c_X0_colorIn l D g a o a1 o1 lefts tops cwidths cheights originals orients count widths heights groups rows i1 (0 : Int32) x11 x8 r12 er12) [0, 1] [] rfl (by decide) 0 0 rfl rfl rfl rfl hl.1 [] rfl (Nat.le_of_ble_eq_true rfl) ⟨Nat.le_of_ble_eq_true rfl, Nat.le_of_ble_eq_true rfl⟩ ⟨Nat.zero_le _, Nat.zero_le _⟩ dX0_matches_111 (wb' := [k_Catalog g a o lefts tops cwidths cheights originals orients, k_Sheet g a1 o1 count widths heights groups rows]) rfl b_e0 2 rfl (by decide) (st2 := [.int r12]) rfl (fun H locs hw => ?_)
                        refine lv_aload_n hx hb dX0_matches_114 rfl (lv_at hl 0 rfl) ?_
                        refine lv_aload_n hx hb dX0_matches_115 rfl (lv_at hl 1 rfl) ?_
                        refine lv_iload_n hx hb dX0_matches_116 rfl (lv_at hl 3 rfl) ?_
                        refine lv_iload hx hb dX0_matches_117 (lv_at hl 4 rfl) ?_
                        refine lv_iload hx hb dX0_matches_119 (lv_at hl 8 rfl) ?_
                        refine lv_iload hx hb dX0_matches_121 (lv_at hl 7 rfl) ?_
                        obtain ⟨r13, er13, h⟩ := g_cl_some h
                        refine b_callV hx hb hml hown hT hK hA hw mk_X0_88 (c_X0_colorIn l D g a o a1 o1 lefts tops cwidths cheights originals orients count widths heights groups rows i2 i3 x11 x8 r13 er13) [0, 1] [] rfl (by decide) 0 0 rfl rfl rfl rfl hl.1 [.int r12] rfl (Nat.le_of_ble_eq_true rfl) ⟨Nat.le_of_ble_eq_true rfl, Nat.le_of_ble_eq_true rfl⟩ ⟨Nat.zero_le _, Nat.zero_le _⟩ dX0_matches_123 (wb' := [k_Catalog g a o lefts tops cwidths cheights originals orients, k_Sheet g a1 o1 count widths heights groups rows]) rfl b_e0 2 rfl (by decide) (st2 := [.int r13, .int r12]) rfl (fun H locs hw => ?_)
                        refine lv_icmp_eq (tgt := 131) hx hb dX0_matches_126 (by decide) (fun hc126 => ?_) (fun hc126 => ?_)
                        · rw [if_pos hc126] at h
                          obtain ⟨x14, ex14, h⟩ := g_bd_nm h
                          refine lv_iinc (v := x14) (lv' := [(9, .int x14), (0, .ref (a o)), (1, .ref (a1 o1)), (2, .int i1), (3, .int i2), (4, .int i3), (6, .int x2), (7, .int x4), (8, .int x8)]) hx hb dX0_matches_131 hl (k := 8) rfl (by rw [ex14]; rfl) (by decide) rfl (fun ls hl => ?_)
                          refine lv_goto (tgt := 96) hx hb dX0_matches_134 (by decide) ?_
                          exact ih96 x14 _ _ _ hw (lv_sub hl [1, 2, 3, 4, 5, 6, 7, 8, 0] rfl) h
                        · rw [if_neg hc126] at h
                          refine lv_iconst (v := 0) hx hb dX0_matches_129 (by decide) ?_
                          obtain rfl := Option.some.inj h
                          exact b_zret hQ hx hb hr hlk (Or.inl rfl) hw rfl dX0_matches_130
                  exact hL96 g_fuel (0 : Int32) _ _ _ hw (lv_sub hl [1, 2, 3, 4, 5, 6, 7, 8, 0] rfl) h
            exact hL86 g_fuel (0 : Int32) _ _ _ hw (lv_sub hl [2, 3, 4, 5, 6, 7, 1, 0] rfl) h
          · rw [if_neg hc78] at h
            refine lv_iconst (v := 0) hx hb dX0_matches_81 (by decide) ?_
            obtain rfl := Option.some.inj h
            exact b_zret hQ hx hb hr hlk (Or.inl rfl) hw rfl dX0_matches_82
      refine lv_if_eq (tgt := 51) hx hb dX0_matches_39 (by decide) (fun hc39 => ?_) (fun hc39 => ?_)
      · rw [if_pos hc39] at h
        refine lv_aload_n hx hb dX0_matches_51 rfl (lv_at hl 1 rfl) ?_
        refine b_get hx hb hT hK hown fl_X0_21 hw 0 0 rfl rfl (v := .ref (a (o+4))) rfl dX0_matches_52 ?_
        refine lv_iload_n hx hb dX0_matches_55 rfl (lv_at hl 4 rfl) ?_
        obtain ⟨x15, ex15, hix15, h⟩ := g_rd_some h
        refine b_iald hx hb hK hw 0 4 rfl (f := cheights) rfl hix15 ex15 dX0_matches_56 ?_
        exact hj57_4 x15 _ _ _ hw (lv_sub hl [1, 2, 3, 4, 5, 0] rfl) h
      · rw [if_neg hc39] at h
        refine lv_aload_n hx hb dX0_matches_42 rfl (lv_at hl 1 rfl) ?_
        refine b_get hx hb hT hK hown fl_X0_18 hw 0 0 rfl rfl (v := .ref (a (o+3))) rfl dX0_matches_43 ?_
        refine lv_iload_n hx hb dX0_matches_46 rfl (lv_at hl 4 rfl) ?_
        obtain ⟨x16, ex16, hix16, h⟩ := g_rd_some h
        refine b_iald hx hb hK hw 0 3 rfl (f := cwidths) rfl hix16 ex16 dX0_matches_47 ?_
        refine lv_goto (tgt := 57) hx hb dX0_matches_48 (by decide) ?_
        exact hj57_4 x16 _ _ _ hw (lv_sub hl [1, 2, 3, 4, 5, 0] rfl) h
    refine lv_if_eq (tgt := 29) hx hb dX0_matches_17 (by decide) (fun hc17 => ?_) (fun hc17 => ?_)
    · rw [if_pos hc17] at h
      refine lv_aload_n hx hb dX0_matches_29 rfl (lv_at hl 1 rfl) ?_
      refine b_get hx hb hT hK hown fl_X0_18 hw 0 0 rfl rfl (v := .ref (a (o+3))) rfl dX0_matches_30 ?_
      refine lv_iload_n hx hb dX0_matches_33 rfl (lv_at hl 4 rfl) ?_
      obtain ⟨x17, ex17, hix17, h⟩ := g_rd_some h
      refine b_iald hx hb hK hw 0 3 rfl (f := cwidths) rfl hix17 ex17 dX0_matches_34 ?_
      exact hj35_2 x17 _ _ _ hw (lv_sub hl [1, 2, 3, 4, 5, 0] rfl) h
    · rw [if_neg hc17] at h
      refine lv_aload_n hx hb dX0_matches_20 rfl (lv_at hl 1 rfl) ?_
      refine b_get hx hb hT hK hown fl_X0_21 hw 0 0 rfl rfl (v := .ref (a (o+4))) rfl dX0_matches_21 ?_
      refine lv_iload_n hx hb dX0_matches_24 rfl (lv_at hl 4 rfl) ?_
      obtain ⟨x18, ex18, hix18, h⟩ := g_rd_some h
      refine b_iald hx hb hK hw 0 4 rfl (f := cheights) rfl hix18 ex18 dX0_matches_25 ?_
      refine lv_goto (tgt := 35) hx hb dX0_matches_26 (by decide) ?_
      exact hj35_2 x18 _ _ _ hw (lv_sub hl [1, 2, 3, 4, 5, 0] rfl) h
  refine lv_icmp_ne (tgt := 12) hx hb dX0_matches_5 (by decide) (fun hc5 => ?_) (fun hc5 => ?_)
  · rw [if_neg hc5] at h
    refine lv_iconst (v := 0) hx hb dX0_matches_12 (by decide) ?_
    exact hj13_1 (0 : Int32) _ _ _ hw (lv_sub hl [0, 1, 2, 3, 4] rfl) h
  · rw [if_pos hc5] at h
    refine lv_iconst (v := 1) hx hb dX0_matches_8 (by decide) ?_
    refine lv_goto (tgt := 13) hx hb dX0_matches_9 (by decide) ?_
    exact hj13_1 (1 : Int32) _ _ _ hw (lv_sub hl [0, 1, 2, 3, 4] rfl) h
set_option maxRecDepth 100000 in
set_option maxHeartbeats 4000000 in
theorem c_X0_findOriginal (l : Launch) (D : va_G) (g : Nat → ClassId) (a : Nat → Nat) (o : Nat) (a1 : Nat → Nat) (o1 : Nat) (lefts : (Nat → Int32)) (tops : (Nat → Int32)) (cwidths : (Nat → Int32)) (cheights : (Nat → Int32)) (originals : (Nat → Int32)) (orients : (Nat → Int32)) (count : Int32) (widths : (Nat → Int32)) (heights : (Nat → Int32)) (groups : (Nat → Int32)) (rows : (Nat → Int32)) (i1 : Int32) (i2 : Int32) (u : (Nat → Int32) × (Nat → Int32)) (h : f_X0_findOriginal lefts tops cwidths cheights originals orients rows i1 i2 = some u) : b_Ct l yX0_findOriginal cX0_findOriginal 6 none 3 83 D g [.ref (a o), .ref (a1 o1), .int i1, .int i2] [k_Catalog g a o lefts tops cwidths cheights originals orients, k_Sheet g a1 o1 count widths heights groups rows] [k_Catalog g a o lefts tops cwidths cheights u.1 u.2, k_Sheet g a1 o1 count widths heights groups rows] none := by
  refine b_start RX0 (by decide) rfl (Nat.le_of_ble_eq_true rfl) rfl ?_
  intro p e s m args below meth c A ls Q hQ hx hb hr hlk hml hown hT hK hA hw hl
  have hl : lv_has ls 6 [(0, .ref (a o)), (1, .ref (a1 o1)), (2, .int i1), (3, .int i2)] := hl
  unfold f_X0_findOriginal at h
  refine lv_aload_n hx hb dX0_findOriginal_0 rfl (lv_at hl 0 rfl) ?_
  refine b_get hx hb hT hK hown fl_X0_24 hw 0 0 rfl rfl (v := .ref (a (o+5))) rfl dX0_findOriginal_1 ?_
  refine lv_iload_n hx hb dX0_findOriginal_4 rfl (lv_at hl 2 rfl) ?_
  refine lv_bipush (v := -4) hx hb dX0_findOriginal_5 (by decide) ?_
  obtain ⟨f1, ef1, hif1, h⟩ := g_wr_some h
  refine b_iast hx hb hK hw 0 5 rfl (f := originals) rfl hif1 ef1 rfl (wb' := [k_Catalog g a o lefts tops cwidths cheights f1 orients, k_Sheet g a1 o1 count widths heights groups rows]) rfl dX0_findOriginal_7 (fun H locs hw => ?_)
  refine lv_aload_n hx hb dX0_findOriginal_8 rfl (lv_at hl 0 rfl) ?_
  refine b_get hx hb hT hK hown fl_X0_27 hw 0 0 rfl rfl (v := .ref (a (o+6))) rfl dX0_findOriginal_9 ?_
  refine lv_iload_n hx hb dX0_findOriginal_12 rfl (lv_at hl 2 rfl) ?_
  refine lv_bipush (v := -4) hx hb dX0_findOriginal_13 (by decide) ?_
  obtain ⟨f2, ef2, hif2, h⟩ := g_wr_some h
  refine b_iast hx hb hK hw 0 6 rfl (f := orients) rfl hif2 ef2 rfl (wb' := [k_Catalog g a o lefts tops cwidths cheights f1 f2, k_Sheet g a1 o1 count widths heights groups rows]) rfl dX0_findOriginal_15 (fun H locs hw => ?_)
  refine lv_aload_n hx hb dX0_findOriginal_16 rfl (lv_at hl 0 rfl) ?_
  refine lv_iload_n hx hb dX0_findOriginal_17 rfl (lv_at hl 2 rfl) ?_
  obtain ⟨r3, er3, h⟩ := g_cl_some h
  refine b_callV hx hb hml hown hT hK hA hw mk_X0_60 (c_X0_isBlank l D g a o lefts tops cwidths cheights f1 f2 i1 r3 er3) [0] [1] rfl (by decide) 0 0 rfl rfl rfl rfl hl.1 [] rfl (Nat.le_of_ble_eq_true rfl) ⟨Nat.le_of_ble_eq_true rfl, Nat.le_of_ble_eq_true rfl⟩ ⟨Nat.zero_le _, Nat.zero_le _⟩ dX0_findOriginal_18 (wb' := [k_Catalog g a o lefts tops cwidths cheights f1 f2, k_Sheet g a1 o1 count widths heights groups rows]) rfl (b_e1 rfl b_e0) 2 rfl (by decide) (st2 := [.int r3]) rfl (fun H locs hw => ?_)
  refine lv_if_eq (tgt := 25) hx hb dX0_findOriginal_21 (by decide) (fun hc21 => ?_) (fun hc21 => ?_)
  · rw [if_pos hc21] at h
    refine lv_iconst (v := 0) hx hb dX0_findOriginal_25 (by decide) ?_
    refine lv_istore (lv' := [(4, .int (0 : Int32)), (0, .ref (a o)), (1, .ref (a1 o1)), (2, .int i1), (3, .int i2)]) hx hb dX0_findOriginal_26 hl (by decide) rfl (fun ls hl => ?_)
    obtain ⟨k65_5, ek65_5, h⟩ := g_jn_nm h
    have hk65_5 : ∀ (x4 : Int32) (x5 : Int32) (H : Heap) (locs : List Loc) (ls : Array Slot), b_Wd D A s.heap H locs [k_Catalog g a o lefts tops cwidths cheights f1 f2, k_Sheet g a1 o1 count widths heights groups rows] → lv_has ls 6 [(0, .ref (a o)), (2, .int i1), (4, .int x4), (5, .int x5)] → k65_5 x4 x5 = some u → W p l e (g_rm 3 83) s m args below meth c H locs 0 0 Q (F0 m 65 ls []) := by
      intro x4 x5 H locs ls hw hl h
      subst ek65_5
      dsimp only at h
      refine lv_aload_n hx hb dX0_findOriginal_65 rfl (lv_at hl 0 rfl) ?_
      refine b_get hx hb hT hK hown fl_X0_24 hw 0 0 rfl rfl (v := .ref (a (o+5))) rfl dX0_findOriginal_66 ?_
      refine lv_iload_n hx hb dX0_findOriginal_69 rfl (lv_at hl 1 rfl) ?_
      refine lv_iload hx hb dX0_findOriginal_70 (lv_at hl 2 rfl) ?_
      obtain ⟨f7, ef7, hif7, h⟩ := g_wr_some h
      refine b_iast hx hb hK hw 0 5 rfl (f := f1) rfl hif7 ef7 rfl (wb' := [k_Catalog g a o lefts tops cwidths cheights f7 f2, k_Sheet g a1 o1 count widths heights groups rows]) rfl dX0_findOriginal_72 (fun H locs hw => ?_)
      refine lv_aload_n hx hb dX0_findOriginal_73 rfl (lv_at hl 0 rfl) ?_
      refine b_get hx hb hT hK hown fl_X0_27 hw 0 0 rfl rfl (v := .ref (a (o+6))) rfl dX0_findOriginal_74 ?_
      refine lv_iload_n hx hb dX0_findOriginal_77 rfl (lv_at hl 1 rfl) ?_
      refine lv_iload hx hb dX0_findOriginal_78 (lv_at hl 3 rfl) ?_
      obtain ⟨f8, ef8, hif8, h⟩ := g_wr_some h
      refine b_iast hx hb hK hw 0 6 rfl (f := f2) rfl hif8 ef8 rfl (wb' := [k_Catalog g a o lefts tops cwidths cheights f7 f8, k_Sheet g a1 o1 count widths heights groups rows]) rfl dX0_findOriginal_80 (fun H locs hw => ?_)
      obtain rfl := Option.some.inj h
      exact b_vret hQ hx hb hr hlk hw rfl dX0_findOriginal_81
    have hL28 : ∀ (n : Nat) (x9 : Int32) (H : Heap) (locs : List Loc) (ls : Array Slot), b_Wd D A s.heap H locs [k_Catalog g a o lefts tops cwidths cheights f1 f2, k_Sheet g a1 o1 count widths heights groups rows] → lv_has ls 6 [(0, .ref (a o)), (1, .ref (a1 o1)), (2, .int i1), (3, .int i2), (4, .int x9)] → f_X0_findOriginal_L28 lefts tops cwidths cheights rows i1 i2 f1 f2 k65_5 n x9 = some u → W p l e (g_rm 3 83) s m args below meth c H locs 0 0 Q (F0 m 28 ls []) := by
      intro n
      induction n with
      | zero =>
        intro x9 H locs ls hw hl h
        cases (show none = some u from h)
      | succ n ih28 =>
        intro x9 H locs ls hw hl h
        rw [f_X0_findOriginal_L28] at h
        refine lv_iload hx hb dX0_findOriginal_28 (lv_at hl 4 rfl) ?_
        refine lv_iload_n hx hb dX0_findOriginal_30 rfl (lv_at hl 2 rfl) ?_
        refine lv_icmp_ge (tgt := 94) hx hb dX0_findOriginal_31 (by decide) (fun hc31 => ?_) (fun hc31 => ?_)
        · rw [if_pos hc31] at h
          obtain rfl := Option.some.inj h
          exact b_vret hQ hx hb hr hlk hw rfl dX0_findOriginal_94
        · rw [if_neg hc31] at h
          refine lv_iconst (v := 0) hx hb dX0_findOriginal_34 (by decide) ?_
          refine lv_istore (lv' := [(5, .int (0 : Int32)), (0, .ref (a o)), (1, .ref (a1 o1)), (2, .int i1), (3, .int i2), (4, .int x9)]) hx hb dX0_findOriginal_35 hl (by decide) rfl (fun ls hl => ?_)
          obtain ⟨k65_10, ek65_10, h⟩ := g_jn_nm h
          have hk65_10 : ∀ (x10 : Int32) (H : Heap) (locs : List Loc) (ls : Array Slot), b_Wd D A s.heap H locs [k_Catalog g a o lefts tops cwidths cheights f1 f2, k_Sheet g a1 o1 count widths heights groups rows] → lv_has ls 6 [(0, .ref (a o)), (2, .int i1), (4, .int x9), (5, .int x10)] → k65_10 x10 = some u → W p l e (g_rm 3 83) s m args below meth c H locs 0 0 Q (F0 m 65 ls []) := by
            intro x10 H locs ls hw hl h
            subst ek65_10
            dsimp only at h
            exact hk65_5 x9 x10 _ _ _ hw (lv_sub hl [0, 1, 2, 3] rfl) h
          obtain ⟨k88_11, ek88_11, h⟩ := g_jn_nm h
          have hk88_11 : ∀ (H : Heap) (locs : List Loc) (ls : Array Slot), b_Wd D A s.heap H locs [k_Catalog g a o lefts tops cwidths cheights f1 f2, k_Sheet g a1 o1 count widths heights groups rows] → lv_has ls 6 [(0, .ref (a o)), (1, .ref (a1 o1)), (2, .int i1), (3, .int i2), (4, .int x9)] → k88_11 = some u → W p l e (g_rm 3 83) s m args below meth c H locs 0 0 Q (F0 m 88 ls []) := by
            intro  H locs ls hw hl h
            subst ek88_11
            obtain ⟨x13, ex13, h⟩ := g_bd_nm h
            refine lv_iinc (v := x13) (lv' := [(4, .int x13), (0, .ref (a o)), (1, .ref (a1 o1)), (2, .int i1), (3, .int i2)]) hx hb dX0_findOriginal_88 hl (k := 4) rfl (by rw [ex13]; rfl) (by decide) rfl (fun ls hl => ?_)
            refine lv_goto (tgt := 28) hx hb dX0_findOriginal_91 (by decide) ?_
            exact ih28 x13 _ _ _ hw (lv_sub hl [1, 2, 3, 4, 0] rfl) h
          have hL37 : ∀ (n : Nat) (x14 : Int32) (H : Heap) (locs : List Loc) (ls : Array Slot), b_Wd D A s.heap H locs [k_Catalog g a o lefts tops cwidths cheights f1 f2, k_Sheet g a1 o1 count widths heights groups rows] → lv_has ls 6 [(0, .ref (a o)), (1, .ref (a1 o1)), (2, .int i1), (3, .int i2), (4, .int x9), (5, .int x14)] → f_X0_findOriginal_L37 lefts tops cwidths cheights rows i1 i2 f1 x9 k65_10 k88_11 n x14 = some u → W p l e (g_rm 3 83) s m args below meth c H locs 0 0 Q (F0 m 37 ls []) := by
            intro n
            induction n with
            | zero =>
              intro x14 H locs ls hw hl h
              cases (show none = some u from h)
            | succ n ih37 =>
              intro x14 H locs ls hw hl h
              rw [f_X0_findOriginal_L37] at h
              refine lv_iload hx hb dX0_findOriginal_37 (lv_at hl 5 rfl) ?_
              refine lv_iload_n hx hb dX0_findOriginal_39 rfl (lv_at hl 3 rfl) ?_
              refine lv_icmp_ge (tgt := 88) hx hb dX0_findOriginal_40 (by decide) (fun hc40 => ?_) (fun hc40 => ?_)
              · rw [if_pos hc40] at h
                exact hk88_11  _ _ _ hw (lv_sub hl [0, 1, 2, 3, 4] rfl) h
              · rw [if_neg hc40] at h
                refine lv_aload_n hx hb dX0_findOriginal_43 rfl (lv_at hl 0 rfl) ?_
                refine lv_iload hx hb dX0_findOriginal_44 (lv_at hl 4 rfl) ?_
                obtain ⟨r15, er15, h⟩ := g_cl_some h
                refine b_callV hx hb hml hown hT hK hA hw mk_X0_85 (c_X0_isOriginal l D g a o lefts tops cwidths cheights f1 f2 x9 r15 er15) [0] [1] rfl (by decide) 0 0 rfl rfl rfl rfl hl.1 [] rfl (Nat.le_of_ble_eq_true rfl) ⟨Nat.le_of_ble_eq_true rfl, Nat.le_of_ble_eq_true rfl⟩ ⟨Nat.zero_le _, Nat.zero_le _⟩ dX0_findOriginal_46 (wb' := [k_Catalog g a o lefts tops cwidths cheights f1 f2, k_Sheet g a1 o1 count widths heights groups rows]) rfl (b_e1 rfl b_e0) 2 rfl (by decide) (st2 := [.int r15]) rfl (fun H locs hw => ?_)
                refine lv_if_eq (tgt := 88) hx hb dX0_findOriginal_49 (by decide) (fun hc49 => ?_) (fun hc49 => ?_)
                · rw [if_pos hc49] at h
                  exact hk88_11  _ _ _ hw (lv_sub hl [0, 1, 2, 3, 4] rfl) h
                · rw [if_neg hc49] at h
                  refine lv_aload_n hx hb dX0_findOriginal_52 rfl (lv_at hl 0 rfl) ?_
                  refine lv_aload_n hx hb dX0_findOriginal_53 rfl (lv_at hl 1 rfl) ?_
                  refine lv_iload_n hx hb dX0_findOriginal_54 rfl (lv_at hl 2 rfl) ?_
                  refine lv_iload hx hb dX0_findOriginal_55 (lv_at hl 4 rfl) ?_
                  refine lv_iload hx hb dX0_findOriginal_57 (lv_at hl 5 rfl) ?_
                  obtain ⟨r16, er16, h⟩ := g_cl_some h
                  refine b_callV hx hb hml hown hT hK hA hw mk_X0_68 (c_X0_matches l D g a o a1 o1 lefts tops cwidths cheights f1 f2 count widths heights groups rows i1 x9 x14 r16 er16) [0, 1] [] rfl (by decide) 0 0 rfl rfl rfl rfl hl.1 [] rfl (Nat.le_of_ble_eq_true rfl) ⟨Nat.le_of_ble_eq_true rfl, Nat.le_of_ble_eq_true rfl⟩ ⟨Nat.zero_le _, Nat.zero_le _⟩ dX0_findOriginal_59 (wb' := [k_Catalog g a o lefts tops cwidths cheights f1 f2, k_Sheet g a1 o1 count widths heights groups rows]) rfl b_e0 2 rfl (by decide) (st2 := [.int r16]) rfl (fun H locs hw => ?_)
                  refine lv_if_eq (tgt := 82) hx hb dX0_findOriginal_62 (by decide) (fun hc62 => ?_) (fun hc62 => ?_)
                  · rw [if_pos hc62] at h
                    obtain ⟨x17, ex17, h⟩ := g_bd_nm h
                    refine lv_iinc (v := x17) (lv' := [(5, .int x17), (0, .ref (a o)), (1, .ref (a1 o1)), (2, .int i1), (3, .int i2), (4, .int x9)]) hx hb dX0_findOriginal_82 hl (k := 5) rfl (by rw [ex17]; rfl) (by decide) rfl (fun ls hl => ?_)
                    refine lv_goto (tgt := 37) hx hb dX0_findOriginal_85 (by decide) ?_
                    exact ih37 x17 _ _ _ hw (lv_sub hl [1, 2, 3, 4, 5, 0] rfl) h
                  · rw [if_neg hc62] at h
                    exact hk65_10 x14 _ _ _ hw (lv_sub hl [0, 2, 4, 5] rfl) h
          exact hL37 g_fuel (0 : Int32) _ _ _ hw (lv_sub hl [1, 2, 3, 4, 5, 0] rfl) h
    exact hL28 g_fuel (0 : Int32) _ _ _ hw (lv_sub hl [1, 2, 3, 4, 0] rfl) h
  · rw [if_neg hc21] at h
    obtain rfl := Option.some.inj h
    exact b_vret hQ hx hb hr hlk hw rfl dX0_findOriginal_24
set_option maxRecDepth 100000 in
set_option maxHeartbeats 4000000 in
theorem c_X0_study (l : Launch) (D : va_G) (g : Nat → ClassId) (a : Nat → Nat) (o : Nat) (a1 : Nat → Nat) (o1 : Nat) (a2 : Nat → Nat) (o2 : Nat) (lefts : (Nat → Int32)) (tops : (Nat → Int32)) (cwidths : (Nat → Int32)) (cheights : (Nat → Int32)) (originals : (Nat → Int32)) (orients : (Nat → Int32)) (count : Int32) (widths : (Nat → Int32)) (heights : (Nat → Int32)) (groups : (Nat → Int32)) (rows : (Nat → Int32)) (pageWidth : Int32) (pageHeight : Int32) (pageLimit : Int32) (padding : Int32) (border : Int32) (extrusion : Int32) (trimming : Int32) (matching : Int32) (rotation : Int32) (grouped : Int32) (order : Int32) (way : Int32) (u : (Nat → Int32) × (Nat → Int32) × (Nat → Int32) × (Nat → Int32) × (Nat → Int32) × (Nat → Int32)) (h : f_X0_study lefts tops cwidths cheights originals orients count widths heights rows trimming matching = some u) : b_Ct l yX0_study cX0_study 4 none 4 108 D g [.ref (a o), .ref (a1 o1), .ref (a2 o2)] [k_Catalog g a o lefts tops cwidths cheights originals orients, k_Sheet g a1 o1 count widths heights groups rows, k_Settings g a2 o2 pageWidth pageHeight pageLimit padding border extrusion trimming matching rotation grouped order way] [k_Catalog g a o u.1 u.2.1 u.2.2.1 u.2.2.2.1 u.2.2.2.2.1 u.2.2.2.2.2, k_Sheet g a1 o1 count widths heights groups rows, k_Settings g a2 o2 pageWidth pageHeight pageLimit padding border extrusion trimming matching rotation grouped order way] none := by
  refine b_start RX0 (by decide) rfl (Nat.le_of_ble_eq_true rfl) rfl ?_
  intro p e s m args below meth c A ls Q hQ hx hb hr hlk hml hown hT hK hA hw hl
  have hl : lv_has ls 4 [(0, .ref (a o)), (1, .ref (a1 o1)), (2, .ref (a2 o2))] := hl
  unfold f_X0_study at h
  refine lv_iconst (v := 0) hx hb dX0_study_0 (by decide) ?_
  refine lv_istore_n (lv' := [(3, .int (0 : Int32)), (0, .ref (a o)), (1, .ref (a1 o1)), (2, .ref (a2 o2))]) hx hb dX0_study_1 rfl hl (by decide) rfl (fun ls hl => ?_)
  have hL2 : ∀ (n : Nat) (x1 : Int32) (f2 : Nat → Int32) (f3 : Nat → Int32) (f4 : Nat → Int32) (f5 : Nat → Int32) (f6 : Nat → Int32) (f7 : Nat → Int32) (H : Heap) (locs : List Loc) (ls : Array Slot), b_Wd D A s.heap H locs [k_Catalog g a o f2 f3 f4 f5 f6 f7, k_Sheet g a1 o1 count widths heights groups rows, k_Settings g a2 o2 pageWidth pageHeight pageLimit padding border extrusion trimming matching rotation grouped order way] → lv_has ls 4 [(0, .ref (a o)), (1, .ref (a1 o1)), (2, .ref (a2 o2)), (3, .int x1)] → f_X0_study_L2 count widths heights rows trimming matching n x1 f2 f3 f4 f5 f6 f7 = some u → W p l e (g_rm 4 108) s m args below meth c H locs 0 0 Q (F0 m 2 ls []) := by
    intro n
    induction n with
    | zero =>
      intro x1 f2 f3 f4 f5 f6 f7 H locs ls hw hl h
      cases (show none = some u from h)
    | succ n ih2 =>
      intro x1 f2 f3 f4 f5 f6 f7 H locs ls hw hl h
      rw [f_X0_study_L2] at h
      refine lv_iload_n hx hb dX0_study_2 rfl (lv_at hl 3 rfl) ?_
      refine lv_aload_n hx hb dX0_study_3 rfl (lv_at hl 1 rfl) ?_
      refine b_get hx hb hT hK hown fl_X0_30 hw 1 0 rfl rfl (v := .int count) rfl dX0_study_4 ?_
      refine lv_icmp_ge (tgt := 61) hx hb dX0_study_7 (by decide) (fun hc7 => ?_) (fun hc7 => ?_)
      · rw [if_pos hc7] at h
        obtain rfl := Option.some.inj h
        exact b_vret hQ hx hb hr hlk hw rfl dX0_study_61
      · rw [if_neg hc7] at h
        refine lv_aload_n hx hb dX0_study_10 rfl (lv_at hl 2 rfl) ?_
        refine b_get hx hb hT hK hown fl_X0_36 hw 2 0 rfl rfl (v := .int trimming) rfl dX0_study_11 ?_
        obtain ⟨j45_11, ej45_11, h⟩ := g_jn_nm h
        have hj45_11 : ∀ (f8 : Nat → Int32) (f9 : Nat → Int32) (f10 : Nat → Int32) (f11 : Nat → Int32) (H : Heap) (locs : List Loc) (ls : Array Slot), b_Wd D A s.heap H locs [k_Catalog g a o f8 f9 f10 f11 f6 f7, k_Sheet g a1 o1 count widths heights groups rows, k_Settings g a2 o2 pageWidth pageHeight pageLimit padding border extrusion trimming matching rotation grouped order way] → lv_has ls 4 [(0, .ref (a o)), (1, .ref (a1 o1)), (2, .ref (a2 o2)), (3, .int x1)] → j45_11 f8 f9 f10 f11 = some u → W p l e (g_rm 4 108) s m args below meth c H locs 0 0 Q (F0 m 45 ls []) := by
          intro f8 f9 f10 f11 H locs ls hw hl h
          subst ej45_11
          dsimp only at h
          refine lv_aload_n hx hb dX0_study_45 rfl (lv_at hl 0 rfl) ?_
          refine lv_aload_n hx hb dX0_study_46 rfl (lv_at hl 1 rfl) ?_
          refine lv_iload_n hx hb dX0_study_47 rfl (lv_at hl 3 rfl) ?_
          refine lv_aload_n hx hb dX0_study_48 rfl (lv_at hl 2 rfl) ?_
          refine b_callV hx hb hml hown hT hK hA hw mk_X0_52 (c_X5_matchedOrientations l D g a2 o2 pageWidth pageHeight pageLimit padding border extrusion trimming matching rotation grouped order way) [2] [0, 1] rfl (by decide) 2 0 rfl rfl rfl rfl hl.1 [.int x1, .ref (a1 o1), .ref (a o)] rfl (Nat.le_of_ble_eq_true rfl) ⟨Nat.le_of_ble_eq_true rfl, Nat.le_of_ble_eq_true rfl⟩ ⟨Nat.zero_le _, Nat.zero_le _⟩ dX0_study_49 (wb' := [k_Catalog g a o f8 f9 f10 f11 f6 f7, k_Sheet g a1 o1 count widths heights groups rows, k_Settings g a2 o2 pageWidth pageHeight pageLimit padding border extrusion trimming matching rotation grouped order way]) rfl (b_e1 rfl (b_e1 rfl b_e0)) 3 rfl (by decide) (st2 := [.int (f_X5_matchedOrientations matching), .int x1, .ref (a1 o1), .ref (a o)]) rfl (fun H locs hw => ?_)
          obtain ⟨r13, er13, h⟩ := g_cl_some h
          refine b_callV hx hb hml hown hT hK hA hw mk_X0_56 (c_X0_findOriginal l D g a o a1 o1 f8 f9 f10 f11 f6 f7 count widths heights groups rows x1 (f_X5_matchedOrientations matching) r13 er13) [0, 1] [2] rfl (by decide) 0 0 rfl rfl rfl rfl hl.1 [] rfl (Nat.le_of_ble_eq_true rfl) ⟨Nat.le_of_ble_eq_true rfl, Nat.le_of_ble_eq_true rfl⟩ ⟨Nat.zero_le _, Nat.zero_le _⟩ dX0_study_52 (wb' := [k_Catalog g a o f8 f9 f10 f11 r13.1 r13.2, k_Sheet g a1 o1 count widths heights groups rows, k_Settings g a2 o2 pageWidth pageHeight pageLimit padding border extrusion trimming matching rotation grouped order way]) rfl (b_e1 rfl b_e0) 3 rfl (by decide) (st2 := []) rfl (fun H locs hw => ?_)
          obtain ⟨x14, ex14, h⟩ := g_bd_nm h
          refine lv_iinc (v := x14) (lv' := [(3, .int x14), (0, .ref (a o)), (1, .ref (a1 o1)), (2, .ref (a2 o2))]) hx hb dX0_study_55 hl (k := 3) rfl (by rw [ex14]; rfl) (by decide) rfl (fun ls hl => ?_)
          refine lv_goto (tgt := 2) hx hb dX0_study_58 (by decide) ?_
          exact ih2 x14 f8 f9 f10 f11 r13.1 r13.2 _ _ _ hw (lv_sub hl [1, 2, 3, 0] rfl) h
        refine lv_if_eq (tgt := 26) hx hb dX0_study_14 (by decide) (fun hc14 => ?_) (fun hc14 => ?_)
        · rw [if_pos hc14] at h
          refine lv_aload_n hx hb dX0_study_26 rfl (lv_at hl 0 rfl) ?_
          refine lv_iload_n hx hb dX0_study_27 rfl (lv_at hl 3 rfl) ?_
          refine lv_iconst (v := 0) hx hb dX0_study_28 (by decide) ?_
          refine lv_iconst (v := 0) hx hb dX0_study_29 (by decide) ?_
          refine lv_aload_n hx hb dX0_study_30 rfl (lv_at hl 1 rfl) ?_
          refine b_get hx hb hT hK hown fl_X0_46 hw 1 0 rfl rfl (v := .ref (a1 (o1+1))) rfl dX0_study_31 ?_
          refine lv_iload_n hx hb dX0_study_34 rfl (lv_at hl 3 rfl) ?_
          obtain ⟨x15, ex15, hix15, h⟩ := g_rd_some h
          refine b_iald hx hb hK hw 1 1 rfl (f := widths) rfl hix15 ex15 dX0_study_35 ?_
          refine lv_aload_n hx hb dX0_study_36 rfl (lv_at hl 1 rfl) ?_
          refine b_get hx hb hT hK hown fl_X0_47 hw 1 0 rfl rfl (v := .ref (a1 (o1+2))) rfl dX0_study_37 ?_
          refine lv_iload_n hx hb dX0_study_40 rfl (lv_at hl 3 rfl) ?_
          obtain ⟨x16, ex16, hix16, h⟩ := g_rd_some h
          refine b_iald hx hb hK hw 1 2 rfl (f := heights) rfl hix16 ex16 dX0_study_41 ?_
          obtain ⟨r17, er17, h⟩ := g_cl_some h
          refine b_callV hx hb hml hown hT hK hA hw mk_X0_48 (c_X0_setTrim l D g a o f2 f3 f4 f5 f6 f7 x1 (0 : Int32) (0 : Int32) x15 x16 r17 er17) [0] [1, 2] rfl (by decide) 0 0 rfl rfl rfl rfl hl.1 [] rfl (Nat.le_of_ble_eq_true rfl) ⟨Nat.le_of_ble_eq_true rfl, Nat.le_of_ble_eq_true rfl⟩ ⟨Nat.zero_le _, Nat.zero_le _⟩ dX0_study_42 (wb' := [k_Catalog g a o r17.1 r17.2.1 r17.2.2.1 r17.2.2.2 f6 f7, k_Sheet g a1 o1 count widths heights groups rows, k_Settings g a2 o2 pageWidth pageHeight pageLimit padding border extrusion trimming matching rotation grouped order way]) rfl (b_e1 rfl (b_e1 rfl b_e0)) 3 rfl (by decide) (st2 := []) rfl (fun H locs hw => ?_)
          exact hj45_11 r17.1 r17.2.1 r17.2.2.1 r17.2.2.2 _ _ _ hw (lv_sub hl [0, 1, 2, 3] rfl) h
        · rw [if_neg hc14] at h
          refine lv_aload_n hx hb dX0_study_17 rfl (lv_at hl 0 rfl) ?_
          refine lv_aload_n hx hb dX0_study_18 rfl (lv_at hl 1 rfl) ?_
          refine lv_iload_n hx hb dX0_study_19 rfl (lv_at hl 3 rfl) ?_
          obtain ⟨r18, er18, h⟩ := g_cl_some h
          refine b_callV hx hb hml hown hT hK hA hw mk_X0_42 (c_X0_trim l D g a o a1 o1 f2 f3 f4 f5 f6 f7 count widths heights groups rows x1 r18 er18) [0, 1] [2] rfl (by decide) 0 0 rfl rfl rfl rfl hl.1 [] rfl (Nat.le_of_ble_eq_true rfl) ⟨Nat.le_of_ble_eq_true rfl, Nat.le_of_ble_eq_true rfl⟩ ⟨Nat.zero_le _, Nat.zero_le _⟩ dX0_study_20 (wb' := [k_Catalog g a o r18.1 r18.2.1 r18.2.2.1 r18.2.2.2 f6 f7, k_Sheet g a1 o1 count widths heights groups rows, k_Settings g a2 o2 pageWidth pageHeight pageLimit padding border extrusion trimming matching rotation grouped order way]) rfl (b_e1 rfl b_e0) 3 rfl (by decide) (st2 := []) rfl (fun H locs hw => ?_)
          refine lv_goto (tgt := 45) hx hb dX0_study_23 (by decide) ?_
          exact hj45_11 r18.1 r18.2.1 r18.2.2.1 r18.2.2.2 _ _ _ hw (lv_sub hl [0, 1, 2, 3] rfl) h
  exact hL2 g_fuel (0 : Int32) lefts tops cwidths cheights originals orients _ _ _ hw (lv_sub hl [1, 2, 3, 0] rfl) h
set_option maxRecDepth 100000 in
set_option maxHeartbeats 4000000 in
theorem c_X0_sourceOf (l : Launch) (D : va_G) (g : Nat → ClassId) (a : Nat → Nat) (o : Nat) (lefts : (Nat → Int32)) (tops : (Nat → Int32)) (cwidths : (Nat → Int32)) (cheights : (Nat → Int32)) (originals : (Nat → Int32)) (orients : (Nat → Int32)) (i1 : Int32) (u : Int32) (h : f_X0_sourceOf cwidths originals i1 = some u) : b_Ct l yX0_sourceOf cX0_sourceOf 2 (some .int) 1 21 D g [.ref (a o), .int i1] [k_Catalog g a o lefts tops cwidths cheights originals orients] [k_Catalog g a o lefts tops cwidths cheights originals orients] (some (.int u)) := by
  refine b_start RX0 (by decide) rfl (Nat.le_of_ble_eq_true rfl) rfl ?_
  intro p e s m args below meth c A ls Q hQ hx hb hr hlk hml hown hT hK hA hw hl
  have hl : lv_has ls 2 [(0, .ref (a o)), (1, .int i1)] := hl
  unfold f_X0_sourceOf at h
  refine lv_aload_n hx hb dX0_sourceOf_0 rfl (lv_at hl 0 rfl) ?_
  refine lv_iload_n hx hb dX0_sourceOf_1 rfl (lv_at hl 1 rfl) ?_
  obtain ⟨r1, er1, h⟩ := g_cl_some h
  refine b_callV hx hb hml hown hT hK hA hw mk_X0_60 (c_X0_isBlank l D g a o lefts tops cwidths cheights originals orients i1 r1 er1) [0] [] rfl (by decide) 0 0 rfl rfl rfl rfl hl.1 [] rfl (Nat.le_of_ble_eq_true rfl) ⟨Nat.le_of_ble_eq_true rfl, Nat.le_of_ble_eq_true rfl⟩ ⟨Nat.zero_le _, Nat.zero_le _⟩ dX0_sourceOf_2 (wb' := [k_Catalog g a o lefts tops cwidths cheights originals orients]) rfl b_e0 1 rfl (by decide) (st2 := [.int r1]) rfl (fun H locs hw => ?_)
  refine lv_if_eq (tgt := 11) hx hb dX0_sourceOf_5 (by decide) (fun hc5 => ?_) (fun hc5 => ?_)
  · rw [if_pos hc5] at h
    refine lv_aload_n hx hb dX0_sourceOf_11 rfl (lv_at hl 0 rfl) ?_
    refine b_get hx hb hT hK hown fl_X0_24 hw 0 0 rfl rfl (v := .ref (a (o+5))) rfl dX0_sourceOf_12 ?_
    refine lv_iload_n hx hb dX0_sourceOf_15 rfl (lv_at hl 1 rfl) ?_
    obtain ⟨x2, ex2, hix2, h⟩ := g_rd_some h
    refine b_iald hx hb hK hw 0 5 rfl (f := originals) rfl hix2 ex2 dX0_sourceOf_16 ?_
    refine lv_bipush (v := -4) hx hb dX0_sourceOf_17 (by decide) ?_
    refine lv_icmp_ne (tgt := 26) hx hb dX0_sourceOf_19 (by decide) (fun hc19 => ?_) (fun hc19 => ?_)
    · rw [if_neg hc19] at h
      refine lv_aload_n hx hb dX0_sourceOf_26 rfl (lv_at hl 0 rfl) ?_
      refine b_get hx hb hT hK hown fl_X0_24 hw 0 0 rfl rfl (v := .ref (a (o+5))) rfl dX0_sourceOf_27 ?_
      refine lv_iload_n hx hb dX0_sourceOf_30 rfl (lv_at hl 1 rfl) ?_
      obtain ⟨x3, ex3, hix3, h⟩ := g_rd_some h
      refine b_iald hx hb hK hw 0 5 rfl (f := originals) rfl hix3 ex3 dX0_sourceOf_31 ?_
      obtain rfl := Option.some.inj h
      exact b_iret hQ hx hb hr hlk hw rfl dX0_sourceOf_32
    · rw [if_pos hc19] at h
      refine lv_iload_n hx hb dX0_sourceOf_22 rfl (lv_at hl 1 rfl) ?_
      refine lv_goto (tgt := 32) hx hb dX0_sourceOf_23 (by decide) ?_
      obtain rfl := Option.some.inj h
      exact b_iret hQ hx hb hr hlk hw rfl dX0_sourceOf_32
  · rw [if_neg hc5] at h
    refine lv_bipush (v := -4) hx hb dX0_sourceOf_8 (by decide) ?_
    obtain rfl := Option.some.inj h
    exact b_iret hQ hx hb hr hlk hw rfl dX0_sourceOf_10
set_option maxRecDepth 100000 in
set_option maxHeartbeats 4000000 in
theorem c_X0_afterTurn (l : Launch) (D : va_G) (g : Nat → ClassId) (i1 : Int32) : b_Ct l yX0_afterTurn cX0_afterTurn 1 (some .int) 0 0 D g [.int i1] ([] : List va_W) ([] : List va_W) (some (.int (f_X0_afterTurn i1))) := by
  refine b_start RX0 (by decide) rfl (Nat.le_of_ble_eq_true rfl) rfl ?_
  intro p e s m args below meth c A ls Q hQ hx hb hr hlk hml hown hT hK hA hw hl
  have hl : lv_has ls 1 [(0, .int i1)] := hl
  generalize h : f_X0_afterTurn i1 = u at hQ
  unfold f_X0_afterTurn at h
  refine lv_iload_n hx hb dX0_afterTurn_0 rfl (lv_at hl 0 rfl) ?_
  refine lv_iconst (v := 4) hx hb dX0_afterTurn_1 (by decide) ?_
  refine lv_icmp_ge (tgt := 13) hx hb dX0_afterTurn_2 (by decide) (fun hc2 => ?_) (fun hc2 => ?_)
  · rw [if_pos hc2] at h
    refine lv_iconst (v := 4) hx hb dX0_afterTurn_13 (by decide) ?_
    refine lv_iload_n hx hb dX0_afterTurn_14 rfl (lv_at hl 0 rfl) ?_
    refine lv_iconst (v := 3) hx hb dX0_afterTurn_15 (by decide) ?_
    refine lv_iadd hx hb dX0_afterTurn_16 ?_
    refine lv_iconst (v := 4) hx hb dX0_afterTurn_17 (by decide) ?_
    refine g_irem hx hb dX0_afterTurn_18 (by decide) ?_
    refine lv_iadd hx hb dX0_afterTurn_19 ?_
    obtain rfl := h
    exact b_iret hQ hx hb hr hlk hw rfl dX0_afterTurn_20
  · rw [if_neg hc2] at h
    refine lv_iload_n hx hb dX0_afterTurn_5 rfl (lv_at hl 0 rfl) ?_
    refine lv_iconst (v := 1) hx hb dX0_afterTurn_6 (by decide) ?_
    refine lv_iadd hx hb dX0_afterTurn_7 ?_
    refine lv_iconst (v := 4) hx hb dX0_afterTurn_8 (by decide) ?_
    refine g_irem hx hb dX0_afterTurn_9 (by decide) ?_
    refine lv_goto (tgt := 20) hx hb dX0_afterTurn_10 (by decide) ?_
    obtain rfl := h
    exact b_iret hQ hx hb hr hlk hw rfl dX0_afterTurn_20
set_option maxRecDepth 100000 in
set_option maxHeartbeats 4000000 in
theorem c_X0_findRecord (l : Launch) (D : va_G) (g : Nat → ClassId) (a : Nat → Nat) (o : Nat) (a1 : Nat → Nat) (o1 : Nat) (lefts : (Nat → Int32)) (tops : (Nat → Int32)) (cwidths : (Nat → Int32)) (cheights : (Nat → Int32)) (originals : (Nat → Int32)) (orients : (Nat → Int32)) (count : Int32) (widths : (Nat → Int32)) (heights : (Nat → Int32)) (groups : (Nat → Int32)) (rows : (Nat → Int32)) (i1 : Int32) (i2 : Int32) (i3 : Int32) (u : Int32) (h : f_X0_findRecord lefts tops cwidths cheights rows i1 i2 i3 = some u) : b_Ct l yX0_findRecord cX0_findRecord 6 (some .int) 3 83 D g [.ref (a o), .ref (a1 o1), .int i1, .int i2, .int i3] [k_Catalog g a o lefts tops cwidths cheights originals orients, k_Sheet g a1 o1 count widths heights groups rows] [k_Catalog g a o lefts tops cwidths cheights originals orients, k_Sheet g a1 o1 count widths heights groups rows] (some (.int u)) := by
  refine b_start RX0 (by decide) rfl (Nat.le_of_ble_eq_true rfl) rfl ?_
  intro p e s m args below meth c A ls Q hQ hx hb hr hlk hml hown hT hK hA hw hl
  have hl : lv_has ls 6 [(0, .ref (a o)), (1, .ref (a1 o1)), (2, .int i1), (3, .int i2), (4, .int i3)] := hl
  unfold f_X0_findRecord at h
  refine lv_iconst (v := 0) hx hb dX0_findRecord_0 (by decide) ?_
  refine lv_istore (lv' := [(5, .int (0 : Int32)), (0, .ref (a o)), (1, .ref (a1 o1)), (2, .int i1), (3, .int i2), (4, .int i3)]) hx hb dX0_findRecord_1 hl (by decide) rfl (fun ls hl => ?_)
  have hL3 : ∀ (n : Nat) (x1 : Int32) (H : Heap) (locs : List Loc) (ls : Array Slot), b_Wd D A s.heap H locs [k_Catalog g a o lefts tops cwidths cheights originals orients, k_Sheet g a1 o1 count widths heights groups rows] → lv_has ls 6 [(0, .ref (a o)), (1, .ref (a1 o1)), (2, .int i1), (3, .int i2), (4, .int i3), (5, .int x1)] → f_X0_findRecord_L3 lefts tops cwidths cheights rows i1 i2 i3 n x1 = some u → W p l e (g_rm 3 83) s m args below meth c H locs 0 0 Q (F0 m 3 ls []) := by
    intro n
    induction n with
    | zero =>
      intro x1 H locs ls hw hl h
      cases (show none = some u from h)
    | succ n ih3 =>
      intro x1 H locs ls hw hl h
      rw [f_X0_findRecord_L3] at h
      refine lv_iload hx hb dX0_findRecord_3 (lv_at hl 5 rfl) ?_
      refine lv_bipush (v := 8) hx hb dX0_findRecord_5 (by decide) ?_
      refine lv_icmp_ge (tgt := 44) hx hb dX0_findRecord_7 (by decide) (fun hc7 => ?_) (fun hc7 => ?_)
      · rw [if_pos hc7] at h
        refine lv_bipush (v := -4) hx hb dX0_findRecord_44 (by decide) ?_
        obtain rfl := Option.some.inj h
        exact b_iret hQ hx hb hr hlk hw rfl dX0_findRecord_46
      · rw [if_neg hc7] at h
        refine lv_aload_n hx hb dX0_findRecord_10 rfl (lv_at hl 0 rfl) ?_
        refine lv_aload_n hx hb dX0_findRecord_11 rfl (lv_at hl 1 rfl) ?_
        refine lv_iload_n hx hb dX0_findRecord_12 rfl (lv_at hl 2 rfl) ?_
        refine lv_iload_n hx hb dX0_findRecord_13 rfl (lv_at hl 3 rfl) ?_
        refine lv_iload hx hb dX0_findRecord_14 (lv_at hl 4 rfl) ?_
        obtain ⟨j29_2, ej29_2, h⟩ := g_bd_k h
        have hj29_2 : ∀ (x2 : Int32) (H : Heap) (locs : List Loc) (ls : Array Slot), b_Wd D A s.heap H locs [k_Catalog g a o lefts tops cwidths cheights originals orients, k_Sheet g a1 o1 count widths heights groups rows] → lv_has ls 6 [(0, .ref (a o)), (1, .ref (a1 o1)), (2, .int i1), (3, .int i2), (4, .int i3), (5, .int x1)] → j29_2 x2 = some u → W p l e (g_rm 3 83) s m args below meth c H locs 0 0 Q (F0 m 29 ls [.int x2, .int i2, .int i1, .ref (a1 o1), .ref (a o)]) := by
          intro x2 H locs ls hw hl h
          subst ej29_2
          dsimp only at h
          obtain ⟨r3, er3, h⟩ := g_cl_some h
          refine b_callV hx hb hml hown hT hK hA hw mk_X0_68 (c_X0_matches l D g a o a1 o1 lefts tops cwidths cheights originals orients count widths heights groups rows i1 i2 x2 r3 er3) [0, 1] [] rfl (by decide) 0 0 rfl rfl rfl rfl hl.1 [] rfl (Nat.le_of_ble_eq_true rfl) ⟨Nat.le_of_ble_eq_true rfl, Nat.le_of_ble_eq_true rfl⟩ ⟨Nat.zero_le _, Nat.zero_le _⟩ dX0_findRecord_29 (wb' := [k_Catalog g a o lefts tops cwidths cheights originals orients, k_Sheet g a1 o1 count widths heights groups rows]) rfl b_e0 2 rfl (by decide) (st2 := [.int r3]) rfl (fun H locs hw => ?_)
          refine lv_if_eq (tgt := 38) hx hb dX0_findRecord_32 (by decide) (fun hc32 => ?_) (fun hc32 => ?_)
          · rw [if_pos hc32] at h
            obtain ⟨x4, ex4, h⟩ := g_bd_nm h
            refine lv_iinc (v := x4) (lv' := [(5, .int x4), (0, .ref (a o)), (1, .ref (a1 o1)), (2, .int i1), (3, .int i2), (4, .int i3)]) hx hb dX0_findRecord_38 hl (k := 5) rfl (by rw [ex4]; rfl) (by decide) rfl (fun ls hl => ?_)
            refine lv_goto (tgt := 3) hx hb dX0_findRecord_41 (by decide) ?_
            exact ih3 x4 _ _ _ hw (lv_sub hl [1, 2, 3, 4, 5, 0] rfl) h
          · rw [if_neg hc32] at h
            refine lv_iload hx hb dX0_findRecord_35 (lv_at hl 5 rfl) ?_
            obtain rfl := Option.some.inj h
            exact b_iret hQ hx hb hr hlk hw rfl dX0_findRecord_37
        refine lv_if_eq (tgt := 27) hx hb dX0_findRecord_16 (by decide) (fun hc16 => ?_) (fun hc16 => ?_)
        · rw [if_pos hc16] at h
          refine lv_iload hx hb dX0_findRecord_27 (lv_at hl 5 rfl) ?_
          exact hj29_2 x1 _ _ _ hw (lv_sub hl [0, 1, 2, 3, 4, 5] rfl) h
        · rw [if_neg hc16] at h
          refine lv_iload hx hb dX0_findRecord_19 (lv_at hl 5 rfl) ?_
          refine b_callS hx hb hml hown hT hK hA hw mk_X0_64 (c_X0_afterTurn l D g x1) [] [0, 1] rfl (by decide) rfl hl.1 [.int i2, .int i1, .ref (a1 o1), .ref (a o)] rfl (Nat.le_of_ble_eq_true rfl) ⟨Nat.le_of_ble_eq_true rfl, Nat.le_of_ble_eq_true rfl⟩ ⟨Nat.zero_le _, Nat.zero_le _⟩ dX0_findRecord_21 (wb' := [k_Catalog g a o lefts tops cwidths cheights originals orients, k_Sheet g a1 o1 count widths heights groups rows]) rfl (b_e1 rfl (b_e1 rfl b_e0)) 2 rfl (by decide) (st2 := [.int (f_X0_afterTurn x1), .int i2, .int i1, .ref (a1 o1), .ref (a o)]) rfl (fun H locs hw => ?_)
          refine lv_goto (tgt := 29) hx hb dX0_findRecord_24 (by decide) ?_
          exact hj29_2 (f_X0_afterTurn x1) _ _ _ hw (lv_sub hl [0, 1, 2, 3, 4, 5] rfl) h
  exact hL3 g_fuel (0 : Int32) _ _ _ hw (lv_sub hl [1, 2, 3, 4, 5, 0] rfl) h
set_option maxRecDepth 100000 in
set_option maxHeartbeats 4000000 in
theorem c_X1_startOn (l : Launch) (D : va_G) (g : Nat → ClassId) (a : Nat → Nat) (o : Nat) (chFound : Int32) (chPage : Int32) (chCol : Int32) (chRow : Int32) (chTurned : Int32) (chFirst : Int32) (chSecond : Int32) (i1 : Int32) (u : Int32 × Int32) (h : f_X1_startOn i1 = u) : b_Ct l yX1_startOn cX1_startOn 2 none 0 0 D g [.ref (a o), .int i1] [k_Choice g a o chFound chPage chCol chRow chTurned chFirst chSecond] [k_Choice g a o u.1 u.2 chCol chRow chTurned chFirst chSecond] none := by
  refine b_start RX1 (by decide) rfl (Nat.le_of_ble_eq_true rfl) rfl ?_
  intro p e s m args below meth c A ls Q hQ hx hb hr hlk hml hown hT hK hA hw hl
  have hl : lv_has ls 2 [(0, .ref (a o)), (1, .int i1)] := hl
  unfold f_X1_startOn at h
  refine lv_aload_n hx hb dX1_startOn_0 rfl (lv_at hl 0 rfl) ?_
  refine lv_iconst (v := 0) hx hb dX1_startOn_1 (by decide) ?_
  refine b_putf hx hb hT hK hown fl_X1_7 ft_X1 hw 0 0 rfl rfl rfl rfl rfl (Nat.le_of_ble_eq_true rfl) rfl (wb' := [k_Choice g a o (0 : Int32) chPage chCol chRow chTurned chFirst chSecond]) rfl dX1_startOn_2 (fun H locs hw => ?_)
  refine lv_aload_n hx hb dX1_startOn_5 rfl (lv_at hl 0 rfl) ?_
  refine lv_iload_n hx hb dX1_startOn_6 rfl (lv_at hl 1 rfl) ?_
  refine b_putf hx hb hT hK hown fl_X1_13 ft_X1 hw 0 0 rfl rfl rfl rfl rfl (Nat.le_of_ble_eq_true rfl) rfl (wb' := [k_Choice g a o (0 : Int32) i1 chCol chRow chTurned chFirst chSecond]) rfl dX1_startOn_7 (fun H locs hw => ?_)
  obtain rfl := h
  exact b_vret hQ hx hb hr hlk hw rfl dX1_startOn_10
set_option maxRecDepth 100000 in
set_option maxHeartbeats 4000000 in
theorem c_X7_leftIn (l : Launch) (D : va_G) (g : Nat → ClassId) (i1 : Int32) : b_Ct l yX7_leftIn cX7_leftIn 1 (some .int) 0 0 D g [.int i1] ([] : List va_W) ([] : List va_W) (some (.int (f_X7_leftIn i1))) := by
  refine b_start RX7 (by decide) rfl (Nat.le_of_ble_eq_true rfl) rfl ?_
  intro p e s m args below meth c A ls Q hQ hx hb hr hlk hml hown hT hK hA hw hl
  have hl : lv_has ls 1 [(0, .int i1)] := hl
  generalize h : f_X7_leftIn i1 = u at hQ
  unfold f_X7_leftIn at h
  refine lv_iload_n hx hb dX7_leftIn_0 rfl (lv_at hl 0 rfl) ?_
  refine lv_bipush (v := 12) hx hb dX7_leftIn_1 (by decide) ?_
  refine g_ishr hx hb dX7_leftIn_3 ?_
  refine lv_bipush (v := 63) hx hb dX7_leftIn_4 (by decide) ?_
  refine lv_iand hx hb dX7_leftIn_6 ?_
  obtain rfl := h
  exact b_iret hQ hx hb hr hlk hw rfl dX7_leftIn_7
set_option maxRecDepth 100000 in
set_option maxHeartbeats 4000000 in
theorem c_X7_topIn (l : Launch) (D : va_G) (g : Nat → ClassId) (i1 : Int32) : b_Ct l yX7_topIn cX7_topIn 1 (some .int) 0 0 D g [.int i1] ([] : List va_W) ([] : List va_W) (some (.int (f_X7_topIn i1))) := by
  refine b_start RX7 (by decide) rfl (Nat.le_of_ble_eq_true rfl) rfl ?_
  intro p e s m args below meth c A ls Q hQ hx hb hr hlk hml hown hT hK hA hw hl
  have hl : lv_has ls 1 [(0, .int i1)] := hl
  generalize h : f_X7_topIn i1 = u at hQ
  unfold f_X7_topIn at h
  refine lv_iload_n hx hb dX7_topIn_0 rfl (lv_at hl 0 rfl) ?_
  refine lv_bipush (v := 18) hx hb dX7_topIn_1 (by decide) ?_
  refine g_ishr hx hb dX7_topIn_3 ?_
  obtain rfl := h
  exact b_iret hQ hx hb hr hlk hw rfl dX7_topIn_4
