set_option maxRecDepth 100000 in
set_option maxHeartbeats 4000000 in
theorem c_X3_lineUp (l : Launch) (D : va_G) (g : Nat → ClassId) (a : Nat → Nat) (o : Nat) (aS : Nat → Nat) (oS : Nat) (aC : Nat → Nat) (oC : Nat) (line : (Nat → Int32)) (S : Nat → Nat → Int32) (lefts : (Nat → Int32)) (tops : (Nat → Int32)) (cwidths : (Nat → Int32)) (cheights : (Nat → Int32)) (originals : (Nat → Int32)) (orients : (Nat → Int32)) (u : Int32 × (Nat → Int32)) (h : f_X3_lineUp line S cwidths cheights originals = some u) : b_Ct l yX3_lineUp cX3_lineUp 4 (some .int) 2 42 D g [.ref (a o)] [k_PkO g a o (aS oS) (aC oC), k_Line g a (o+6) line, k_StO g aS oS, k_Sheet g aS (oS+1) (S 0 0) (S 1) (S 2) (S 3) (S 4), k_Settings g aS (oS+6) (S 5 0) (S 5 1) (S 5 2) (S 5 3) (S 5 4) (S 5 5) (S 5 6) (S 5 7) (S 5 8) (S 5 9) (S 5 10) (S 5 11), k_Catalog g aC oC lefts tops cwidths cheights originals orients] [k_PkO g a o (aS oS) (aC oC), k_Line g a (o+6) u.2, k_StO g aS oS, k_Sheet g aS (oS+1) (S 0 0) (S 1) (S 2) (S 3) (S 4), k_Settings g aS (oS+6) (S 5 0) (S 5 1) (S 5 2) (S 5 3) (S 5 4) (S 5 5) (S 5 6) (S 5 7) (S 5 8) (S 5 9) (S 5 10) (S 5 11), k_Catalog g aC oC lefts tops cwidths cheights originals orients] (some (.int u.1)) := by
  refine b_start RX3 (by decide) rfl (Nat.le_of_ble_eq_true rfl) rfl ?_
  intro p e s m args below meth c A ls Q hQ hx hb hr hlk hml hown hT hK hA hw hl
  have hl : lv_has ls 4 [(0, .ref (a o))] := hl
  unfold f_X3_lineUp at h
  refine lv_iconst (v := 0) hx hb dX3_lineUp_0 (by decide) ?_
  refine lv_istore_n (lv' := [(1, .int (0 : Int32)), (0, .ref (a o))]) hx hb dX3_lineUp_1 rfl hl (by decide) rfl (fun ls hl => ?_)
  refine lv_iconst (v := 0) hx hb dX3_lineUp_2 (by decide) ?_
  refine lv_istore_n (lv' := [(2, .int (0 : Int32)), (1, .int (0 : Int32)), (0, .ref (a o))]) hx hb dX3_lineUp_3 rfl hl (by decide) rfl (fun ls hl => ?_)
  have hL4 : ∀ (n : Nat) (x1 : Int32) (x2 : Int32) (f3 : Nat → Int32) (H : Heap) (locs : List Loc) (ls : Array Slot), b_Wd D A s.heap H locs [k_PkO g a o (aS oS) (aC oC), k_Line g a (o+6) f3, k_StO g aS oS, k_Sheet g aS (oS+1) (S 0 0) (S 1) (S 2) (S 3) (S 4), k_Settings g aS (oS+6) (S 5 0) (S 5 1) (S 5 2) (S 5 3) (S 5 4) (S 5 5) (S 5 6) (S 5 7) (S 5 8) (S 5 9) (S 5 10) (S 5 11), k_Catalog g aC oC lefts tops cwidths cheights originals orients] → lv_has ls 4 [(0, .ref (a o)), (1, .int x1), (2, .int x2)] → f_X3_lineUp_L4 S cwidths cheights originals n x1 x2 f3 = some u → W p l e (g_rm 2 42) s m args below meth c H locs 0 0 Q (F0 m 4 ls []) := by
    intro n
    induction n with
    | zero =>
      intro x1 x2 f3 H locs ls hw hl h
      cases (show none = some u from h)
    | succ n ih4 =>
      intro x1 x2 f3 H locs ls hw hl h
      rw [f_X3_lineUp_L4] at h
      refine lv_iload_n hx hb dX3_lineUp_4 rfl (lv_at hl 2 rfl) ?_
      refine lv_aload_n hx hb dX3_lineUp_5 rfl (lv_at hl 0 rfl) ?_
      refine b_get hx hb hT hK hown fl_X3_29 hw 0 0 rfl rfl (v := .ref (aS oS)) rfl dX3_lineUp_6 ?_
      refine b_get hx hb hT hK hown fl_X3_92 hw 2 0 rfl rfl (v := .ref (aS (oS+1))) rfl dX3_lineUp_9 ?_
      refine b_get hx hb hT hK hown fl_X3_142 hw 3 0 rfl rfl (v := .int (S 0 0)) rfl dX3_lineUp_12 ?_
      refine lv_icmp_ge (tgt := 91) hx hb dX3_lineUp_15 (by decide) (fun hc15 => ?_) (fun hc15 => ?_)
      · rw [if_pos hc15] at h
        refine lv_iload_n hx hb dX3_lineUp_91 rfl (lv_at hl 1 rfl) ?_
        obtain rfl := Option.some.inj h
        exact b_iret hQ hx hb hr hlk hw rfl dX3_lineUp_92
      · rw [if_neg hc15] at h
        refine lv_aload_n hx hb dX3_lineUp_18 rfl (lv_at hl 0 rfl) ?_
        refine b_get hx hb hT hK hown fl_X3_33 hw 0 0 rfl rfl (v := .ref (aC oC)) rfl dX3_lineUp_19 ?_
        refine lv_iload_n hx hb dX3_lineUp_22 rfl (lv_at hl 2 rfl) ?_
        obtain ⟨r4, er4, h⟩ := g_cl_some h
        refine b_callV hx hb hml hown hT hK hA hw mk_X3_197 (c_X0_isOriginal l D g aC oC lefts tops cwidths cheights originals orients x2 r4 er4) [5] [0, 1, 2, 3, 4] rfl (by decide) 5 0 rfl rfl rfl rfl hl.1 [] rfl (Nat.le_of_ble_eq_true rfl) ⟨Nat.le_of_ble_eq_true rfl, Nat.le_of_ble_eq_true rfl⟩ ⟨Nat.zero_le _, Nat.zero_le _⟩ dX3_lineUp_23 (wb' := [k_PkO g a o (aS oS) (aC oC), k_Line g a (o+6) f3, k_StO g aS oS, k_Sheet g aS (oS+1) (S 0 0) (S 1) (S 2) (S 3) (S 4), k_Settings g aS (oS+6) (S 5 0) (S 5 1) (S 5 2) (S 5 3) (S 5 4) (S 5 5) (S 5 6) (S 5 7) (S 5 8) (S 5 9) (S 5 10) (S 5 11), k_Catalog g aC oC lefts tops cwidths cheights originals orients]) rfl (b_e1 rfl (b_e1 rfl (b_e1 rfl (b_e1 rfl (b_e1 rfl b_e0))))) 6 rfl (by decide) (st2 := [.int r4]) rfl (fun H locs hw => ?_)
        obtain ⟨j85_6, ej85_6, h⟩ := g_jn_nm h
        have hj85_6 : ∀ (x5 : Int32) (f6 : Nat → Int32) (H : Heap) (locs : List Loc) (ls : Array Slot), b_Wd D A s.heap H locs [k_PkO g a o (aS oS) (aC oC), k_Line g a (o+6) f6, k_StO g aS oS, k_Sheet g aS (oS+1) (S 0 0) (S 1) (S 2) (S 3) (S 4), k_Settings g aS (oS+6) (S 5 0) (S 5 1) (S 5 2) (S 5 3) (S 5 4) (S 5 5) (S 5 6) (S 5 7) (S 5 8) (S 5 9) (S 5 10) (S 5 11), k_Catalog g aC oC lefts tops cwidths cheights originals orients] → lv_has ls 4 [(0, .ref (a o)), (1, .int x5), (2, .int x2)] → j85_6 x5 f6 = some u → W p l e (g_rm 2 42) s m args below meth c H locs 0 0 Q (F0 m 85 ls []) := by
          intro x5 f6 H locs ls hw hl h
          subst ej85_6
          dsimp only at h
          obtain ⟨x8, ex8, h⟩ := g_bd_nm h
          refine lv_iinc (v := x8) (lv' := [(2, .int x8), (0, .ref (a o)), (1, .int x5)]) hx hb dX3_lineUp_85 hl (k := 2) rfl (by rw [ex8]; rfl) (by decide) rfl (fun ls hl => ?_)
          refine lv_goto (tgt := 4) hx hb dX3_lineUp_88 (by decide) ?_
          exact ih4 x5 x8 f6 _ _ _ hw (lv_sub hl [1, 2, 0] rfl) h
        refine lv_if_eq (tgt := 85) hx hb dX3_lineUp_26 (by decide) (fun hc26 => ?_) (fun hc26 => ?_)
        · rw [if_pos hc26] at h
          exact hj85_6 x1 f3 _ _ _ hw (lv_sub hl [0, 1, 2] rfl) h
        · rw [if_neg hc26] at h
          refine lv_iload_n hx hb dX3_lineUp_29 rfl (lv_at hl 1 rfl) ?_
          refine lv_istore_n (lv' := [(3, .int x1), (0, .ref (a o)), (1, .int x1), (2, .int x2)]) hx hb dX3_lineUp_30 rfl hl (by decide) rfl (fun ls hl => ?_)
          obtain ⟨k75_10, ek75_10, h⟩ := g_jn_nm h
          have hk75_10 : ∀ (x9 : Int32) (f10 : Nat → Int32) (H : Heap) (locs : List Loc) (ls : Array Slot), b_Wd D A s.heap H locs [k_PkO g a o (aS oS) (aC oC), k_Line g a (o+6) f10, k_StO g aS oS, k_Sheet g aS (oS+1) (S 0 0) (S 1) (S 2) (S 3) (S 4), k_Settings g aS (oS+6) (S 5 0) (S 5 1) (S 5 2) (S 5 3) (S 5 4) (S 5 5) (S 5 6) (S 5 7) (S 5 8) (S 5 9) (S 5 10) (S 5 11), k_Catalog g aC oC lefts tops cwidths cheights originals orients] → lv_has ls 4 [(0, .ref (a o)), (1, .int x1), (2, .int x2), (3, .int x9)] → k75_10 x9 f10 = some u → W p l e (g_rm 2 42) s m args below meth c H locs 0 0 Q (F0 m 75 ls []) := by
            intro x9 f10 H locs ls hw hl h
            subst ek75_10
            dsimp only at h
            refine lv_aload_n hx hb dX3_lineUp_75 rfl (lv_at hl 0 rfl) ?_
            refine b_get hx hb hT hK hown fl_X3_25 hw 0 0 rfl rfl (v := .ref (a (o+6))) rfl dX3_lineUp_76 ?_
            refine lv_iload_n hx hb dX3_lineUp_79 rfl (lv_at hl 3 rfl) ?_
            refine lv_iload_n hx hb dX3_lineUp_80 rfl (lv_at hl 2 rfl) ?_
            obtain ⟨f12, ef12, hif12, h⟩ := g_wr_some h
            refine b_iast hx hb hK hw 1 0 rfl (f := f10) rfl hif12 ef12 rfl (wb' := [k_PkO g a o (aS oS) (aC oC), k_Line g a (o+6) f12, k_StO g aS oS, k_Sheet g aS (oS+1) (S 0 0) (S 1) (S 2) (S 3) (S 4), k_Settings g aS (oS+6) (S 5 0) (S 5 1) (S 5 2) (S 5 3) (S 5 4) (S 5 5) (S 5 6) (S 5 7) (S 5 8) (S 5 9) (S 5 10) (S 5 11), k_Catalog g aC oC lefts tops cwidths cheights originals orients]) rfl dX3_lineUp_81 (fun H locs hw => ?_)
            obtain ⟨x13, ex13, h⟩ := g_bd_nm h
            refine lv_iinc (v := x13) (lv' := [(1, .int x13), (0, .ref (a o)), (2, .int x2), (3, .int x9)]) hx hb dX3_lineUp_82 hl (k := 1) rfl (by rw [ex13]; rfl) (by decide) rfl (fun ls hl => ?_)
            exact hj85_6 x13 f12 _ _ _ hw (lv_sub hl [1, 0, 2] rfl) h
          have hL31 : ∀ (n : Nat) (x14 : Int32) (f15 : Nat → Int32) (H : Heap) (locs : List Loc) (ls : Array Slot), b_Wd D A s.heap H locs [k_PkO g a o (aS oS) (aC oC), k_Line g a (o+6) f15, k_StO g aS oS, k_Sheet g aS (oS+1) (S 0 0) (S 1) (S 2) (S 3) (S 4), k_Settings g aS (oS+6) (S 5 0) (S 5 1) (S 5 2) (S 5 3) (S 5 4) (S 5 5) (S 5 6) (S 5 7) (S 5 8) (S 5 9) (S 5 10) (S 5 11), k_Catalog g aC oC lefts tops cwidths cheights originals orients] → lv_has ls 4 [(0, .ref (a o)), (1, .int x1), (2, .int x2), (3, .int x14)] → f_X3_lineUp_L31 S cwidths cheights x2 k75_10 n x14 f15 = some u → W p l e (g_rm 2 42) s m args below meth c H locs 0 0 Q (F0 m 31 ls []) := by
            intro n
            induction n with
            | zero =>
              intro x14 f15 H locs ls hw hl h
              cases (show none = some u from h)
            | succ n ih31 =>
              intro x14 f15 H locs ls hw hl h
              rw [f_X3_lineUp_L31] at h
              refine lv_iload_n hx hb dX3_lineUp_31 rfl (lv_at hl 3 rfl) ?_
              refine lv_if_le (tgt := 75) hx hb dX3_lineUp_32 (by decide) (fun hc32 => ?_) (fun hc32 => ?_)
              · rw [if_pos hc32] at h
                exact hk75_10 x14 f15 _ _ _ hw (lv_sub hl [0, 1, 2, 3] rfl) h
              · rw [if_neg hc32] at h
                refine lv_aload_n hx hb dX3_lineUp_35 rfl (lv_at hl 0 rfl) ?_
                refine lv_aload_n hx hb dX3_lineUp_36 rfl (lv_at hl 0 rfl) ?_
                refine b_get hx hb hT hK hown fl_X3_25 hw 0 0 rfl rfl (v := .ref (a (o+6))) rfl dX3_lineUp_37 ?_
                refine lv_iload_n hx hb dX3_lineUp_40 rfl (lv_at hl 3 rfl) ?_
                refine lv_iconst (v := 1) hx hb dX3_lineUp_41 (by decide) ?_
                refine lv_isub hx hb dX3_lineUp_42 ?_
                obtain ⟨x16, ex16, hix16, h⟩ := g_rd_some h
                refine b_iald hx hb hK hw 1 0 rfl (f := f15) rfl hix16 ex16 dX3_lineUp_43 ?_
                obtain ⟨r17, er17, h⟩ := g_cl_some h
                refine b_callV hx hb hml hown hT hK hA hw mk_X3_200 (c_X3_rankOf l D g a o aS oS aC oC S lefts tops cwidths cheights originals orients x16 r17 er17) [0, 2, 4, 5] [1, 3] rfl (by decide) 0 0 rfl rfl rfl rfl hl.1 [] rfl (Nat.le_of_ble_eq_true rfl) ⟨Nat.le_of_ble_eq_true rfl, Nat.le_of_ble_eq_true rfl⟩ ⟨Nat.zero_le _, Nat.zero_le _⟩ dX3_lineUp_44 (wb' := [k_PkO g a o (aS oS) (aC oC), k_Line g a (o+6) f15, k_StO g aS oS, k_Sheet g aS (oS+1) (S 0 0) (S 1) (S 2) (S 3) (S 4), k_Settings g aS (oS+6) (S 5 0) (S 5 1) (S 5 2) (S 5 3) (S 5 4) (S 5 5) (S 5 6) (S 5 7) (S 5 8) (S 5 9) (S 5 10) (S 5 11), k_Catalog g aC oC lefts tops cwidths cheights originals orients]) rfl (b_e1 rfl (b_e1 rfl b_e0)) 6 rfl (by decide) (st2 := [.int r17]) rfl (fun H locs hw => ?_)
                refine lv_aload_n hx hb dX3_lineUp_47 rfl (lv_at hl 0 rfl) ?_
                refine lv_iload_n hx hb dX3_lineUp_48 rfl (lv_at hl 2 rfl) ?_
                obtain ⟨r18, er18, h⟩ := g_cl_some h
                refine b_callV hx hb hml hown hT hK hA hw mk_X3_200 (c_X3_rankOf l D g a o aS oS aC oC S lefts tops cwidths cheights originals orients x2 r18 er18) [0, 2, 4, 5] [1, 3] rfl (by decide) 0 0 rfl rfl rfl rfl hl.1 [.int r17] rfl (Nat.le_of_ble_eq_true rfl) ⟨Nat.le_of_ble_eq_true rfl, Nat.le_of_ble_eq_true rfl⟩ ⟨Nat.zero_le _, Nat.zero_le _⟩ dX3_lineUp_49 (wb' := [k_PkO g a o (aS oS) (aC oC), k_Line g a (o+6) f15, k_StO g aS oS, k_Sheet g aS (oS+1) (S 0 0) (S 1) (S 2) (S 3) (S 4), k_Settings g aS (oS+6) (S 5 0) (S 5 1) (S 5 2) (S 5 3) (S 5 4) (S 5 5) (S 5 6) (S 5 7) (S 5 8) (S 5 9) (S 5 10) (S 5 11), k_Catalog g aC oC lefts tops cwidths cheights originals orients]) rfl (b_e1 rfl (b_e1 rfl b_e0)) 6 rfl (by decide) (st2 := [.int r18, .int r17]) rfl (fun H locs hw => ?_)
                refine lv_icmp_ge (tgt := 75) hx hb dX3_lineUp_52 (by decide) (fun hc52 => ?_) (fun hc52 => ?_)
                · rw [if_pos hc52] at h
                  exact hk75_10 x14 f15 _ _ _ hw (lv_sub hl [0, 1, 2, 3] rfl) h
                · rw [if_neg hc52] at h
                  refine lv_aload_n hx hb dX3_lineUp_55 rfl (lv_at hl 0 rfl) ?_
                  refine b_get hx hb hT hK hown fl_X3_25 hw 0 0 rfl rfl (v := .ref (a (o+6))) rfl dX3_lineUp_56 ?_
                  refine lv_iload_n hx hb dX3_lineUp_59 rfl (lv_at hl 3 rfl) ?_
                  refine lv_aload_n hx hb dX3_lineUp_60 rfl (lv_at hl 0 rfl) ?_
                  refine b_get hx hb hT hK hown fl_X3_25 hw 0 0 rfl rfl (v := .ref (a (o+6))) rfl dX3_lineUp_61 ?_
                  refine lv_iload_n hx hb dX3_lineUp_64 rfl (lv_at hl 3 rfl) ?_
                  refine lv_iconst (v := 1) hx hb dX3_lineUp_65 (by decide) ?_
                  refine lv_isub hx hb dX3_lineUp_66 ?_
                  obtain ⟨x19, ex19, hix19, h⟩ := g_rd_some h
                  refine b_iald hx hb hK hw 1 0 rfl (f := f15) rfl hix19 ex19 dX3_lineUp_67 ?_
                  obtain ⟨f20, ef20, hif20, h⟩ := g_wr_some h
                  refine b_iast hx hb hK hw 1 0 rfl (f := f15) rfl hif20 ef20 rfl (wb' := [k_PkO g a o (aS oS) (aC oC), k_Line g a (o+6) f20, k_StO g aS oS, k_Sheet g aS (oS+1) (S 0 0) (S 1) (S 2) (S 3) (S 4), k_Settings g aS (oS+6) (S 5 0) (S 5 1) (S 5 2) (S 5 3) (S 5 4) (S 5 5) (S 5 6) (S 5 7) (S 5 8) (S 5 9) (S 5 10) (S 5 11), k_Catalog g aC oC lefts tops cwidths cheights originals orients]) rfl dX3_lineUp_68 (fun H locs hw => ?_)
                  obtain ⟨x21, ex21, h⟩ := g_bd_nm h
                  refine lv_iinc (v := x21) (lv' := [(3, .int x21), (0, .ref (a o)), (1, .int x1), (2, .int x2)]) hx hb dX3_lineUp_69 hl (k := 3) rfl (by rw [ex21]; rfl) (by decide) rfl (fun ls hl => ?_)
                  refine lv_goto (tgt := 31) hx hb dX3_lineUp_72 (by decide) ?_
                  exact ih31 x21 f20 _ _ _ hw (lv_sub hl [1, 2, 3, 0] rfl) h
          exact hL31 g_fuel x1 f3 _ _ _ hw (lv_sub hl [1, 2, 3, 0] rfl) h
  exact hL4 g_fuel (0 : Int32) (0 : Int32) line _ _ _ hw (lv_sub hl [2, 1, 0] rfl) h
set_option maxRecDepth 100000 in
set_option maxHeartbeats 4000000 in
theorem c_X4_isEmptyPage (l : Launch) (D : va_G) (g : Nat → ClassId) (a : Nat → Nat) (o : Nat) (pageCount : Int32) (pageGroups : (Nat → Int32)) (pages : (Nat → Int32)) (columns : (Nat → Int32)) (rowsP : (Nat → Int32)) (turned : (Nat → Int32)) (i1 : Int32) (u : Int32) (h : f_X4_isEmptyPage pages i1 = some u) : b_Ct l yX4_isEmptyPage cX4_isEmptyPage 3 (some .boolean) 0 0 D g [.ref (a o), .int i1] [k_Places g a o pageCount pageGroups pages columns rowsP turned] [k_Places g a o pageCount pageGroups pages columns rowsP turned] (some (.int u)) := by
  refine b_start RX4 (by decide) rfl (Nat.le_of_ble_eq_true rfl) rfl ?_
  intro p e s m args below meth c A ls Q hQ hx hb hr hlk hml hown hT hK hA hw hl
  have hl : lv_has ls 3 [(0, .ref (a o)), (1, .int i1)] := hl
  unfold f_X4_isEmptyPage at h
  refine lv_iconst (v := 0) hx hb dX4_isEmptyPage_0 (by decide) ?_
  refine lv_istore_n (lv' := [(2, .int (0 : Int32)), (0, .ref (a o)), (1, .int i1)]) hx hb dX4_isEmptyPage_1 rfl hl (by decide) rfl (fun ls hl => ?_)
  have hL2 : ∀ (n : Nat) (x1 : Int32) (H : Heap) (locs : List Loc) (ls : Array Slot), b_Wd D A s.heap H locs [k_Places g a o pageCount pageGroups pages columns rowsP turned] → lv_has ls 3 [(0, .ref (a o)), (1, .int i1), (2, .int x1)] → f_X4_isEmptyPage_L2 pages i1 n x1 = some u → W p l e (g_rm 0 0) s m args below meth c H locs 0 0 Q (F0 m 2 ls []) := by
    intro n
    induction n with
    | zero =>
      intro x1 H locs ls hw hl h
      cases (show none = some u from h)
    | succ n ih2 =>
      intro x1 H locs ls hw hl h
      rw [f_X4_isEmptyPage_L2] at h
      refine lv_iload_n hx hb dX4_isEmptyPage_2 rfl (lv_at hl 2 rfl) ?_
      refine lv_bipush (v := 24) hx hb dX4_isEmptyPage_3 (by decide) ?_
      refine lv_icmp_ge (tgt := 26) hx hb dX4_isEmptyPage_5 (by decide) (fun hc5 => ?_) (fun hc5 => ?_)
      · rw [if_pos hc5] at h
        refine lv_iconst (v := 1) hx hb dX4_isEmptyPage_26 (by decide) ?_
        obtain rfl := Option.some.inj h
        exact b_zret hQ hx hb hr hlk (Or.inr rfl) hw rfl dX4_isEmptyPage_27
      · rw [if_neg hc5] at h
        refine lv_aload_n hx hb dX4_isEmptyPage_8 rfl (lv_at hl 0 rfl) ?_
        refine b_get hx hb hT hK hown fl_X4_15 hw 0 0 rfl rfl (v := .ref (a (o+2))) rfl dX4_isEmptyPage_9 ?_
        refine lv_iload_n hx hb dX4_isEmptyPage_12 rfl (lv_at hl 2 rfl) ?_
        obtain ⟨x2, ex2, hix2, h⟩ := g_rd_some h
        refine b_iald hx hb hK hw 0 2 rfl (f := pages) rfl hix2 ex2 dX4_isEmptyPage_13 ?_
        refine lv_iload_n hx hb dX4_isEmptyPage_14 rfl (lv_at hl 1 rfl) ?_
        refine lv_icmp_ne (tgt := 20) hx hb dX4_isEmptyPage_15 (by decide) (fun hc15 => ?_) (fun hc15 => ?_)
        · rw [if_neg hc15] at h
          obtain ⟨x3, ex3, h⟩ := g_bd_nm h
          refine lv_iinc (v := x3) (lv' := [(2, .int x3), (0, .ref (a o)), (1, .int i1)]) hx hb dX4_isEmptyPage_20 hl (k := 2) rfl (by rw [ex3]; rfl) (by decide) rfl (fun ls hl => ?_)
          refine lv_goto (tgt := 2) hx hb dX4_isEmptyPage_23 (by decide) ?_
          exact ih2 x3 _ _ _ hw (lv_sub hl [1, 2, 0] rfl) h
        · rw [if_pos hc15] at h
          refine lv_iconst (v := 0) hx hb dX4_isEmptyPage_18 (by decide) ?_
          obtain rfl := Option.some.inj h
          exact b_zret hQ hx hb hr hlk (Or.inl rfl) hw rfl dX4_isEmptyPage_19
  exact hL2 g_fuel (0 : Int32) _ _ _ hw (lv_sub hl [1, 2, 0] rfl) h
set_option maxRecDepth 100000 in
set_option maxHeartbeats 4000000 in
theorem c_X3_isOpenTo (l : Launch) (D : va_G) (g : Nat → ClassId) (a : Nat → Nat) (o : Nat) (aS : Nat → Nat) (oS : Nat) (aC : Nat → Nat) (oC : Nat) (S : Nat → Nat → Int32) (i1 : Int32) (i2 : Int32) (u : Int32) (h : f_X3_isOpenTo S i1 i2 = some u) : b_Ct l yX3_isOpenTo cX3_isOpenTo 3 (some .boolean) 1 22 D g [.ref (a o), .int i1, .int i2] [k_PkO g a o (aS oS) (aC oC), k_StO g aS oS, k_Sheet g aS (oS+1) (S 0 0) (S 1) (S 2) (S 3) (S 4), k_Settings g aS (oS+6) (S 5 0) (S 5 1) (S 5 2) (S 5 3) (S 5 4) (S 5 5) (S 5 6) (S 5 7) (S 5 8) (S 5 9) (S 5 10) (S 5 11), k_Places g aS (oS+7) (S 6 0) (S 7) (S 8) (S 9) (S 10) (S 11)] [k_PkO g a o (aS oS) (aC oC), k_StO g aS oS, k_Sheet g aS (oS+1) (S 0 0) (S 1) (S 2) (S 3) (S 4), k_Settings g aS (oS+6) (S 5 0) (S 5 1) (S 5 2) (S 5 3) (S 5 4) (S 5 5) (S 5 6) (S 5 7) (S 5 8) (S 5 9) (S 5 10) (S 5 11), k_Places g aS (oS+7) (S 6 0) (S 7) (S 8) (S 9) (S 10) (S 11)] (some (.int u)) := by
  refine b_start RX3 (by decide) rfl (Nat.le_of_ble_eq_true rfl) rfl ?_
  intro p e s m args below meth c A ls Q hQ hx hb hr hlk hml hown hT hK hA hw hl
  have hl : lv_has ls 3 [(0, .ref (a o)), (1, .int i1), (2, .int i2)] := hl
  unfold f_X3_isOpenTo at h
  refine lv_aload_n hx hb dX3_isOpenTo_0 rfl (lv_at hl 0 rfl) ?_
  refine b_get hx hb hT hK hown fl_X3_29 hw 0 0 rfl rfl (v := .ref (aS oS)) rfl dX3_isOpenTo_1 ?_
  refine b_get hx hb hT hK hown fl_X3_71 hw 1 0 rfl rfl (v := .ref (aS (oS+6))) rfl dX3_isOpenTo_4 ?_
  refine b_get hx hb hT hK hown fl_X3_206 hw 3 0 rfl rfl (v := .int (S 5 9)) rfl dX3_isOpenTo_7 ?_
  refine lv_if_eq (tgt := 54) hx hb dX3_isOpenTo_10 (by decide) (fun hc10 => ?_) (fun hc10 => ?_)
  · rw [if_pos hc10] at h
    refine lv_iconst (v := 1) hx hb dX3_isOpenTo_54 (by decide) ?_
    refine lv_goto (tgt := 59) hx hb dX3_isOpenTo_55 (by decide) ?_
    obtain rfl := Option.some.inj h
    exact b_zret hQ hx hb hr hlk (Or.inr rfl) hw rfl dX3_isOpenTo_59
  · rw [if_neg hc10] at h
    refine lv_aload_n hx hb dX3_isOpenTo_13 rfl (lv_at hl 0 rfl) ?_
    refine b_get hx hb hT hK hown fl_X3_29 hw 0 0 rfl rfl (v := .ref (aS oS)) rfl dX3_isOpenTo_14 ?_
    refine b_get hx hb hT hK hown fl_X3_37 hw 1 0 rfl rfl (v := .ref (aS (oS+7))) rfl dX3_isOpenTo_17 ?_
    refine b_get hx hb hT hK hown fl_X3_89 hw 4 0 rfl rfl (v := .ref (aS (oS+8))) rfl dX3_isOpenTo_20 ?_
    refine lv_iload_n hx hb dX3_isOpenTo_23 rfl (lv_at hl 1 rfl) ?_
    obtain ⟨x1, ex1, hix1, h⟩ := g_rd_some h
    refine b_iald hx hb hK hw 4 1 rfl (f := (S 7)) rfl hix1 ex1 dX3_isOpenTo_24 ?_
    refine lv_aload_n hx hb dX3_isOpenTo_25 rfl (lv_at hl 0 rfl) ?_
    refine b_get hx hb hT hK hown fl_X3_29 hw 0 0 rfl rfl (v := .ref (aS oS)) rfl dX3_isOpenTo_26 ?_
    refine b_get hx hb hT hK hown fl_X3_92 hw 1 0 rfl rfl (v := .ref (aS (oS+1))) rfl dX3_isOpenTo_29 ?_
    refine b_get hx hb hT hK hown fl_X3_96 hw 2 0 rfl rfl (v := .ref (aS (oS+4))) rfl dX3_isOpenTo_32 ?_
    refine lv_iload_n hx hb dX3_isOpenTo_35 rfl (lv_at hl 2 rfl) ?_
    obtain ⟨x2, ex2, hix2, h⟩ := g_rd_some h
    refine b_iald hx hb hK hw 2 3 rfl (f := (S 3)) rfl hix2 ex2 dX3_isOpenTo_36 ?_
    refine lv_icmp_eq (tgt := 54) hx hb dX3_isOpenTo_37 (by decide) (fun hc37 => ?_) (fun hc37 => ?_)
    · rw [if_pos hc37] at h
      refine lv_iconst (v := 1) hx hb dX3_isOpenTo_54 (by decide) ?_
      refine lv_goto (tgt := 59) hx hb dX3_isOpenTo_55 (by decide) ?_
      obtain rfl := Option.some.inj h
      exact b_zret hQ hx hb hr hlk (Or.inr rfl) hw rfl dX3_isOpenTo_59
    · rw [if_neg hc37] at h
      refine lv_aload_n hx hb dX3_isOpenTo_40 rfl (lv_at hl 0 rfl) ?_
      refine b_get hx hb hT hK hown fl_X3_29 hw 0 0 rfl rfl (v := .ref (aS oS)) rfl dX3_isOpenTo_41 ?_
      refine b_get hx hb hT hK hown fl_X3_37 hw 1 0 rfl rfl (v := .ref (aS (oS+7))) rfl dX3_isOpenTo_44 ?_
      refine lv_iload_n hx hb dX3_isOpenTo_47 rfl (lv_at hl 1 rfl) ?_
      obtain ⟨r3, er3, h⟩ := g_cl_some h
      refine b_callV hx hb hml hown hT hK hA hw mk_X3_86 (c_X4_isEmptyPage l D g aS (oS+7) (S 6 0) (S 7) (S 8) (S 9) (S 10) (S 11) i1 r3 er3) [4] [0, 1, 2, 3] rfl (by decide) 4 0 rfl rfl rfl rfl hl.1 [] rfl (Nat.le_of_ble_eq_true rfl) ⟨Nat.le_of_ble_eq_true rfl, Nat.le_of_ble_eq_true rfl⟩ ⟨Nat.zero_le _, Nat.zero_le _⟩ dX3_isOpenTo_48 (wb' := [k_PkO g a o (aS oS) (aC oC), k_StO g aS oS, k_Sheet g aS (oS+1) (S 0 0) (S 1) (S 2) (S 3) (S 4), k_Settings g aS (oS+6) (S 5 0) (S 5 1) (S 5 2) (S 5 3) (S 5 4) (S 5 5) (S 5 6) (S 5 7) (S 5 8) (S 5 9) (S 5 10) (S 5 11), k_Places g aS (oS+7) (S 6 0) (S 7) (S 8) (S 9) (S 10) (S 11)]) rfl (b_e1 rfl (b_e1 rfl (b_e1 rfl (b_e1 rfl b_e0)))) 5 rfl (by decide) (st2 := [.int r3]) rfl (fun H locs hw => ?_)
      refine lv_if_eq (tgt := 58) hx hb dX3_isOpenTo_51 (by decide) (fun hc51 => ?_) (fun hc51 => ?_)
      · rw [if_pos hc51] at h
        refine lv_iconst (v := 0) hx hb dX3_isOpenTo_58 (by decide) ?_
        obtain rfl := Option.some.inj h
        exact b_zret hQ hx hb hr hlk (Or.inl rfl) hw rfl dX3_isOpenTo_59
      · rw [if_neg hc51] at h
        refine lv_iconst (v := 1) hx hb dX3_isOpenTo_54 (by decide) ?_
        refine lv_goto (tgt := 59) hx hb dX3_isOpenTo_55 (by decide) ?_
        obtain rfl := Option.some.inj h
        exact b_zret hQ hx hb hr hlk (Or.inr rfl) hw rfl dX3_isOpenTo_59
set_option maxRecDepth 100000 in
set_option maxHeartbeats 4000000 in
theorem c_X7_codeOf (l : Launch) (D : va_G) (g : Nat → ClassId) (a : Nat → Nat) (o : Nat) (spW : Int32) (spH : Int32) (fr : (Nat → Int64)) (codes : (Nat → Int32)) (counts : (Nat → Int32)) (i1 : Int32) (i2 : Int32) (u : Int32) (h : f_X7_codeOf codes i1 i2 = some u) : b_Ct l yX7_codeOf cX7_codeOf 3 (some .int) 0 0 D g [.ref (a o), .int i1, .int i2] [k_Space g a o spW spH fr codes counts] [k_Space g a o spW spH fr codes counts] (some (.int u)) := by
  refine b_start RX7 (by decide) rfl (Nat.le_of_ble_eq_true rfl) rfl ?_
  intro p e s m args below meth c A ls Q hQ hx hb hr hlk hml hown hT hK hA hw hl
  have hl : lv_has ls 3 [(0, .ref (a o)), (1, .int i1), (2, .int i2)] := hl
  unfold f_X7_codeOf at h
  refine lv_aload_n hx hb dX7_codeOf_0 rfl (lv_at hl 0 rfl) ?_
  refine b_get hx hb hT hK hown fl_X7_15 hw 0 0 rfl rfl (v := .ref (a (o+2))) rfl dX7_codeOf_1 ?_
  refine lv_iload_n hx hb dX7_codeOf_4 rfl (lv_at hl 1 rfl) ?_
  refine lv_sipush (v := 349) hx hb dX7_codeOf_5 (by decide) ?_
  refine lv_imul hx hb dX7_codeOf_8 ?_
  refine lv_iload_n hx hb dX7_codeOf_9 rfl (lv_at hl 2 rfl) ?_
  refine lv_iadd hx hb dX7_codeOf_10 ?_
  obtain ⟨x1, ex1, hix1, h⟩ := g_rd_some h
  refine b_iald hx hb hK hw 0 2 rfl (f := codes) rfl hix1 ex1 dX7_codeOf_11 ?_
  obtain rfl := Option.some.inj h
  exact b_iret hQ hx hb hr hlk hw rfl dX7_codeOf_12
set_option maxRecDepth 100000 in
set_option maxHeartbeats 4000000 in
theorem c_X5_boxGrowth (l : Launch) (D : va_G) (g : Nat → ClassId) (a : Nat → Nat) (o : Nat) (pageWidth : Int32) (pageHeight : Int32) (pageLimit : Int32) (padding : Int32) (border : Int32) (extrusion : Int32) (trimming : Int32) (matching : Int32) (rotation : Int32) (grouped : Int32) (order : Int32) (way : Int32) : b_Ct l yX5_boxGrowth cX5_boxGrowth 1 (some .int) 0 0 D g [.ref (a o)] [k_Settings g a o pageWidth pageHeight pageLimit padding border extrusion trimming matching rotation grouped order way] [k_Settings g a o pageWidth pageHeight pageLimit padding border extrusion trimming matching rotation grouped order way] (some (.int (f_X5_boxGrowth padding extrusion))) := by
  refine b_start RX5 (by decide) rfl (Nat.le_of_ble_eq_true rfl) rfl ?_
  intro p e s m args below meth c A ls Q hQ hx hb hr hlk hml hown hT hK hA hw hl
  have hl : lv_has ls 1 [(0, .ref (a o))] := hl
  generalize h : f_X5_boxGrowth padding extrusion = u at hQ
  unfold f_X5_boxGrowth at h
  refine lv_iconst (v := 2) hx hb dX5_boxGrowth_0 (by decide) ?_
  refine lv_aload_n hx hb dX5_boxGrowth_1 rfl (lv_at hl 0 rfl) ?_
  refine b_get hx hb hT hK hown fl_X5_53 hw 0 0 rfl rfl (v := .int extrusion) rfl dX5_boxGrowth_2 ?_
  refine lv_imul hx hb dX5_boxGrowth_5 ?_
  refine lv_aload_n hx hb dX5_boxGrowth_6 rfl (lv_at hl 0 rfl) ?_
  refine b_get hx hb hT hK hown fl_X5_37 hw 0 0 rfl rfl (v := .int padding) rfl dX5_boxGrowth_7 ?_
  refine lv_iadd hx hb dX5_boxGrowth_10 ?_
  obtain rfl := h
  exact b_iret hQ hx hb hr hlk hw rfl dX5_boxGrowth_11
set_option maxRecDepth 100000 in
set_option maxHeartbeats 4000000 in
theorem c_X3_boxWidth (l : Launch) (D : va_G) (g : Nat → ClassId) (a : Nat → Nat) (o : Nat) (aS : Nat → Nat) (oS : Nat) (aC : Nat → Nat) (oC : Nat) (S : Nat → Nat → Int32) (lefts : (Nat → Int32)) (tops : (Nat → Int32)) (cwidths : (Nat → Int32)) (cheights : (Nat → Int32)) (originals : (Nat → Int32)) (orients : (Nat → Int32)) (i1 : Int32) (i2 : Int32) (u : Int32) (h : f_X3_boxWidth S cwidths cheights i1 i2 = some u) : b_Ct l yX3_boxWidth cX3_boxWidth 3 (some .int) 1 20 D g [.ref (a o), .int i1, .int i2] [k_PkO g a o (aS oS) (aC oC), k_StO g aS oS, k_Settings g aS (oS+6) (S 5 0) (S 5 1) (S 5 2) (S 5 3) (S 5 4) (S 5 5) (S 5 6) (S 5 7) (S 5 8) (S 5 9) (S 5 10) (S 5 11), k_Catalog g aC oC lefts tops cwidths cheights originals orients] [k_PkO g a o (aS oS) (aC oC), k_StO g aS oS, k_Settings g aS (oS+6) (S 5 0) (S 5 1) (S 5 2) (S 5 3) (S 5 4) (S 5 5) (S 5 6) (S 5 7) (S 5 8) (S 5 9) (S 5 10) (S 5 11), k_Catalog g aC oC lefts tops cwidths cheights originals orients] (some (.int u)) := by
  refine b_start RX3 (by decide) rfl (Nat.le_of_ble_eq_true rfl) rfl ?_
  intro p e s m args below meth c A ls Q hQ hx hb hr hlk hml hown hT hK hA hw hl
  have hl : lv_has ls 3 [(0, .ref (a o)), (1, .int i1), (2, .int i2)] := hl
  unfold f_X3_boxWidth at h
  refine lv_iload_n hx hb dX3_boxWidth_0 rfl (lv_at hl 2 rfl) ?_
  obtain ⟨j25_1, ej25_1, h⟩ := g_jn_nm h
  have hj25_1 : ∀ (x1 : Int32) (H : Heap) (locs : List Loc) (ls : Array Slot), b_Wd D A s.heap H locs [k_PkO g a o (aS oS) (aC oC), k_StO g aS oS, k_Settings g aS (oS+6) (S 5 0) (S 5 1) (S 5 2) (S 5 3) (S 5 4) (S 5 5) (S 5 6) (S 5 7) (S 5 8) (S 5 9) (S 5 10) (S 5 11), k_Catalog g aC oC lefts tops cwidths cheights originals orients] → lv_has ls 3 [(0, .ref (a o))] → j25_1 x1 = some u → W p l e (g_rm 1 20) s m args below meth c H locs 0 0 Q (F0 m 25 ls [.int x1]) := by
    intro x1 H locs ls hw hl h
    subst ej25_1
    dsimp only at h
    refine lv_aload_n hx hb dX3_boxWidth_25 rfl (lv_at hl 0 rfl) ?_
    refine b_get hx hb hT hK hown fl_X3_29 hw 0 0 rfl rfl (v := .ref (aS oS)) rfl dX3_boxWidth_26 ?_
    refine b_get hx hb hT hK hown fl_X3_71 hw 1 0 rfl rfl (v := .ref (aS (oS+6))) rfl dX3_boxWidth_29 ?_
    refine b_callV hx hb hml hown hT hK hA hw mk_X3_256 (c_X5_boxGrowth l D g aS (oS+6) (S 5 0) (S 5 1) (S 5 2) (S 5 3) (S 5 4) (S 5 5) (S 5 6) (S 5 7) (S 5 8) (S 5 9) (S 5 10) (S 5 11)) [2] [0, 1, 3] rfl (by decide) 2 0 rfl rfl rfl rfl hl.1 [.int x1] rfl (Nat.le_of_ble_eq_true rfl) ⟨Nat.le_of_ble_eq_true rfl, Nat.le_of_ble_eq_true rfl⟩ ⟨Nat.zero_le _, Nat.zero_le _⟩ dX3_boxWidth_32 (wb' := [k_PkO g a o (aS oS) (aC oC), k_StO g aS oS, k_Settings g aS (oS+6) (S 5 0) (S 5 1) (S 5 2) (S 5 3) (S 5 4) (S 5 5) (S 5 6) (S 5 7) (S 5 8) (S 5 9) (S 5 10) (S 5 11), k_Catalog g aC oC lefts tops cwidths cheights originals orients]) rfl (b_e1 rfl (b_e1 rfl (b_e1 rfl b_e0))) 4 rfl (by decide) (st2 := [.int (f_X5_boxGrowth (S 5 3) (S 5 5)), .int x1]) rfl (fun H locs hw => ?_)
    refine lv_iadd hx hb dX3_boxWidth_35 ?_
    obtain rfl := Option.some.inj h
    exact b_iret hQ hx hb hr hlk hw rfl dX3_boxWidth_36
  refine lv_if_eq (tgt := 16) hx hb dX3_boxWidth_1 (by decide) (fun hc1 => ?_) (fun hc1 => ?_)
  · rw [if_pos hc1] at h
    refine lv_aload_n hx hb dX3_boxWidth_16 rfl (lv_at hl 0 rfl) ?_
    refine b_get hx hb hT hK hown fl_X3_33 hw 0 0 rfl rfl (v := .ref (aC oC)) rfl dX3_boxWidth_17 ?_
    refine b_get hx hb hT hK hown fl_X3_191 hw 3 0 rfl rfl (v := .ref (aC (oC+3))) rfl dX3_boxWidth_20 ?_
    refine lv_iload_n hx hb dX3_boxWidth_23 rfl (lv_at hl 1 rfl) ?_
    obtain ⟨x3, ex3, hix3, h⟩ := g_rd_some h
    refine b_iald hx hb hK hw 3 3 rfl (f := cwidths) rfl hix3 ex3 dX3_boxWidth_24 ?_
    exact hj25_1 x3 _ _ _ hw (lv_sub hl [0] rfl) h
  · rw [if_neg hc1] at h
    refine lv_aload_n hx hb dX3_boxWidth_4 rfl (lv_at hl 0 rfl) ?_
    refine b_get hx hb hT hK hown fl_X3_33 hw 0 0 rfl rfl (v := .ref (aC oC)) rfl dX3_boxWidth_5 ?_
    refine b_get hx hb hT hK hown fl_X3_194 hw 3 0 rfl rfl (v := .ref (aC (oC+4))) rfl dX3_boxWidth_8 ?_
    refine lv_iload_n hx hb dX3_boxWidth_11 rfl (lv_at hl 1 rfl) ?_
    obtain ⟨x4, ex4, hix4, h⟩ := g_rd_some h
    refine b_iald hx hb hK hw 3 4 rfl (f := cheights) rfl hix4 ex4 dX3_boxWidth_12 ?_
    refine lv_goto (tgt := 25) hx hb dX3_boxWidth_13 (by decide) ?_
    exact hj25_1 x4 _ _ _ hw (lv_sub hl [0] rfl) h
set_option maxRecDepth 100000 in
set_option maxHeartbeats 4000000 in
theorem c_X3_boxHeight (l : Launch) (D : va_G) (g : Nat → ClassId) (a : Nat → Nat) (o : Nat) (aS : Nat → Nat) (oS : Nat) (aC : Nat → Nat) (oC : Nat) (S : Nat → Nat → Int32) (lefts : (Nat → Int32)) (tops : (Nat → Int32)) (cwidths : (Nat → Int32)) (cheights : (Nat → Int32)) (originals : (Nat → Int32)) (orients : (Nat → Int32)) (i1 : Int32) (i2 : Int32) (u : Int32) (h : f_X3_boxHeight S cwidths cheights i1 i2 = some u) : b_Ct l yX3_boxHeight cX3_boxHeight 3 (some .int) 1 20 D g [.ref (a o), .int i1, .int i2] [k_PkO g a o (aS oS) (aC oC), k_StO g aS oS, k_Settings g aS (oS+6) (S 5 0) (S 5 1) (S 5 2) (S 5 3) (S 5 4) (S 5 5) (S 5 6) (S 5 7) (S 5 8) (S 5 9) (S 5 10) (S 5 11), k_Catalog g aC oC lefts tops cwidths cheights originals orients] [k_PkO g a o (aS oS) (aC oC), k_StO g aS oS, k_Settings g aS (oS+6) (S 5 0) (S 5 1) (S 5 2) (S 5 3) (S 5 4) (S 5 5) (S 5 6) (S 5 7) (S 5 8) (S 5 9) (S 5 10) (S 5 11), k_Catalog g aC oC lefts tops cwidths cheights originals orients] (some (.int u)) := by
  refine b_start RX3 (by decide) rfl (Nat.le_of_ble_eq_true rfl) rfl ?_
  intro p e s m args below meth c A ls Q hQ hx hb hr hlk hml hown hT hK hA hw hl
  have hl : lv_has ls 3 [(0, .ref (a o)), (1, .int i1), (2, .int i2)] := hl
  unfold f_X3_boxHeight at h
  refine lv_iload_n hx hb dX3_boxHeight_0 rfl (lv_at hl 2 rfl) ?_
  obtain ⟨j25_1, ej25_1, h⟩ := g_jn_nm h
  have hj25_1 : ∀ (x1 : Int32) (H : Heap) (locs : List Loc) (ls : Array Slot), b_Wd D A s.heap H locs [k_PkO g a o (aS oS) (aC oC), k_StO g aS oS, k_Settings g aS (oS+6) (S 5 0) (S 5 1) (S 5 2) (S 5 3) (S 5 4) (S 5 5) (S 5 6) (S 5 7) (S 5 8) (S 5 9) (S 5 10) (S 5 11), k_Catalog g aC oC lefts tops cwidths cheights originals orients] → lv_has ls 3 [(0, .ref (a o))] → j25_1 x1 = some u → W p l e (g_rm 1 20) s m args below meth c H locs 0 0 Q (F0 m 25 ls [.int x1]) := by
    intro x1 H locs ls hw hl h
    subst ej25_1
    dsimp only at h
    refine lv_aload_n hx hb dX3_boxHeight_25 rfl (lv_at hl 0 rfl) ?_
    refine b_get hx hb hT hK hown fl_X3_29 hw 0 0 rfl rfl (v := .ref (aS oS)) rfl dX3_boxHeight_26 ?_
    refine b_get hx hb hT hK hown fl_X3_71 hw 1 0 rfl rfl (v := .ref (aS (oS+6))) rfl dX3_boxHeight_29 ?_
    refine b_callV hx hb hml hown hT hK hA hw mk_X3_256 (c_X5_boxGrowth l D g aS (oS+6) (S 5 0) (S 5 1) (S 5 2) (S 5 3) (S 5 4) (S 5 5) (S 5 6) (S 5 7) (S 5 8) (S 5 9) (S 5 10) (S 5 11)) [2] [0, 1, 3] rfl (by decide) 2 0 rfl rfl rfl rfl hl.1 [.int x1] rfl (Nat.le_of_ble_eq_true rfl) ⟨Nat.le_of_ble_eq_true rfl, Nat.le_of_ble_eq_true rfl⟩ ⟨Nat.zero_le _, Nat.zero_le _⟩ dX3_boxHeight_32 (wb' := [k_PkO g a o (aS oS) (aC oC), k_StO g aS oS, k_Settings g aS (oS+6) (S 5 0) (S 5 1) (S 5 2) (S 5 3) (S 5 4) (S 5 5) (S 5 6) (S 5 7) (S 5 8) (S 5 9) (S 5 10) (S 5 11), k_Catalog g aC oC lefts tops cwidths cheights originals orients]) rfl (b_e1 rfl (b_e1 rfl (b_e1 rfl b_e0))) 4 rfl (by decide) (st2 := [.int (f_X5_boxGrowth (S 5 3) (S 5 5)), .int x1]) rfl (fun H locs hw => ?_)
    refine lv_iadd hx hb dX3_boxHeight_35 ?_
    obtain rfl := Option.some.inj h
    exact b_iret hQ hx hb hr hlk hw rfl dX3_boxHeight_36
  refine lv_if_eq (tgt := 16) hx hb dX3_boxHeight_1 (by decide) (fun hc1 => ?_) (fun hc1 => ?_)
  · rw [if_pos hc1] at h
    refine lv_aload_n hx hb dX3_boxHeight_16 rfl (lv_at hl 0 rfl) ?_
    refine b_get hx hb hT hK hown fl_X3_33 hw 0 0 rfl rfl (v := .ref (aC oC)) rfl dX3_boxHeight_17 ?_
    refine b_get hx hb hT hK hown fl_X3_194 hw 3 0 rfl rfl (v := .ref (aC (oC+4))) rfl dX3_boxHeight_20 ?_
    refine lv_iload_n hx hb dX3_boxHeight_23 rfl (lv_at hl 1 rfl) ?_
    obtain ⟨x3, ex3, hix3, h⟩ := g_rd_some h
    refine b_iald hx hb hK hw 3 4 rfl (f := cheights) rfl hix3 ex3 dX3_boxHeight_24 ?_
    exact hj25_1 x3 _ _ _ hw (lv_sub hl [0] rfl) h
  · rw [if_neg hc1] at h
    refine lv_aload_n hx hb dX3_boxHeight_4 rfl (lv_at hl 0 rfl) ?_
    refine b_get hx hb hT hK hown fl_X3_33 hw 0 0 rfl rfl (v := .ref (aC oC)) rfl dX3_boxHeight_5 ?_
    refine b_get hx hb hT hK hown fl_X3_191 hw 3 0 rfl rfl (v := .ref (aC (oC+3))) rfl dX3_boxHeight_8 ?_
    refine lv_iload_n hx hb dX3_boxHeight_11 rfl (lv_at hl 1 rfl) ?_
    obtain ⟨x4, ex4, hix4, h⟩ := g_rd_some h
    refine b_iald hx hb hK hw 3 3 rfl (f := cwidths) rfl hix4 ex4 dX3_boxHeight_12 ?_
    refine lv_goto (tgt := 25) hx hb dX3_boxHeight_13 (by decide) ?_
    exact hj25_1 x4 _ _ _ hw (lv_sub hl [0] rfl) h
set_option maxRecDepth 100000 in
set_option maxHeartbeats 4000000 in
theorem c_X7_widthIn (l : Launch) (D : va_G) (g : Nat → ClassId) (i1 : Int32) : b_Ct l yX7_widthIn cX7_widthIn 1 (some .int) 0 0 D g [.int i1] ([] : List va_W) ([] : List va_W) (some (.int (f_X7_widthIn i1))) := by
  refine b_start RX7 (by decide) rfl (Nat.le_of_ble_eq_true rfl) rfl ?_
  intro p e s m args below meth c A ls Q hQ hx hb hr hlk hml hown hT hK hA hw hl
  have hl : lv_has ls 1 [(0, .int i1)] := hl
  generalize h : f_X7_widthIn i1 = u at hQ
  unfold f_X7_widthIn at h
  refine lv_iload_n hx hb dX7_widthIn_0 rfl (lv_at hl 0 rfl) ?_
  refine lv_bipush (v := 6) hx hb dX7_widthIn_1 (by decide) ?_
  refine g_ishr hx hb dX7_widthIn_3 ?_
  refine lv_bipush (v := 63) hx hb dX7_widthIn_4 (by decide) ?_
  refine lv_iand hx hb dX7_widthIn_6 ?_
  obtain rfl := h
  exact b_iret hQ hx hb hr hlk hw rfl dX7_widthIn_7
set_option maxRecDepth 100000 in
set_option maxHeartbeats 4000000 in
theorem c_X7_heightIn (l : Launch) (D : va_G) (g : Nat → ClassId) (i1 : Int32) : b_Ct l yX7_heightIn cX7_heightIn 1 (some .int) 0 0 D g [.int i1] ([] : List va_W) ([] : List va_W) (some (.int (f_X7_heightIn i1))) := by
  refine b_start RX7 (by decide) rfl (Nat.le_of_ble_eq_true rfl) rfl ?_
  intro p e s m args below meth c A ls Q hQ hx hb hr hlk hml hown hT hK hA hw hl
  have hl : lv_has ls 1 [(0, .int i1)] := hl
  generalize h : f_X7_heightIn i1 = u at hQ
  unfold f_X7_heightIn at h
  refine lv_iload_n hx hb dX7_heightIn_0 rfl (lv_at hl 0 rfl) ?_
  refine lv_bipush (v := 63) hx hb dX7_heightIn_1 (by decide) ?_
  refine lv_iand hx hb dX7_heightIn_3 ?_
  obtain rfl := h
  exact b_iret hQ hx hb hr hlk hw rfl dX7_heightIn_4
set_option maxRecDepth 100000 in
set_option maxHeartbeats 4000000 in
theorem c_X3_offer (l : Launch) (D : va_G) (g : Nat → ClassId) (a : Nat → Nat) (o : Nat) (aS : Nat → Nat) (oS : Nat) (aC : Nat → Nat) (oC : Nat) (chFound : Int32) (chPage : Int32) (chCol : Int32) (chRow : Int32) (chTurned : Int32) (chFirst : Int32) (chSecond : Int32) (S : Nat → Nat → Int32) (lefts : (Nat → Int32)) (tops : (Nat → Int32)) (cwidths : (Nat → Int32)) (cheights : (Nat → Int32)) (originals : (Nat → Int32)) (orients : (Nat → Int32)) (i1 : Int32) (i2 : Int32) (i3 : Int32) (u : Int32 × Int32 × Int32 × Int32 × Int32 × Int32) (h : f_X3_offer chFound chCol chRow chTurned chFirst chSecond S cwidths cheights i1 i2 i3 = some u) : b_Ct l yX3_offer cX3_offer 10 none 2 45 D g [.ref (a o), .int i1, .int i2, .int i3] [k_PkO g a o (aS oS) (aC oC), k_Choice g a (o+5) chFound chPage chCol chRow chTurned chFirst chSecond, k_StO g aS oS, k_Settings g aS (oS+6) (S 5 0) (S 5 1) (S 5 2) (S 5 3) (S 5 4) (S 5 5) (S 5 6) (S 5 7) (S 5 8) (S 5 9) (S 5 10) (S 5 11), k_Catalog g aC oC lefts tops cwidths cheights originals orients] [k_PkO g a o (aS oS) (aC oC), k_Choice g a (o+5) u.1 chPage u.2.1 u.2.2.1 u.2.2.2.1 u.2.2.2.2.1 u.2.2.2.2.2, k_StO g aS oS, k_Settings g aS (oS+6) (S 5 0) (S 5 1) (S 5 2) (S 5 3) (S 5 4) (S 5 5) (S 5 6) (S 5 7) (S 5 8) (S 5 9) (S 5 10) (S 5 11), k_Catalog g aC oC lefts tops cwidths cheights originals orients] none := by
  refine b_start RX3 (by decide) rfl (Nat.le_of_ble_eq_true rfl) rfl ?_
  intro p e s m args below meth c A ls Q hQ hx hb hr hlk hml hown hT hK hA hw hl
  have hl : lv_has ls 10 [(0, .ref (a o)), (1, .int i1), (2, .int i2), (3, .int i3)] := hl
  unfold f_X3_offer at h
  refine lv_aload_n hx hb dX3_offer_0 rfl (lv_at hl 0 rfl) ?_
  refine lv_iload_n hx hb dX3_offer_1 rfl (lv_at hl 2 rfl) ?_
  refine lv_iload_n hx hb dX3_offer_2 rfl (lv_at hl 3 rfl) ?_
  obtain ⟨r1, er1, h⟩ := g_cl_some h
  refine b_callV hx hb hml hown hT hK hA hw mk_X3_145 (c_X3_boxWidth l D g a o aS oS aC oC S lefts tops cwidths cheights originals orients i2 i3 r1 er1) [0, 2, 3, 4] [1] rfl (by decide) 0 0 rfl rfl rfl rfl hl.1 [] rfl (Nat.le_of_ble_eq_true rfl) ⟨Nat.le_of_ble_eq_true rfl, Nat.le_of_ble_eq_true rfl⟩ ⟨Nat.zero_le _, Nat.zero_le _⟩ dX3_offer_3 (wb' := [k_PkO g a o (aS oS) (aC oC), k_Choice g a (o+5) chFound chPage chCol chRow chTurned chFirst chSecond, k_StO g aS oS, k_Settings g aS (oS+6) (S 5 0) (S 5 1) (S 5 2) (S 5 3) (S 5 4) (S 5 5) (S 5 6) (S 5 7) (S 5 8) (S 5 9) (S 5 10) (S 5 11), k_Catalog g aC oC lefts tops cwidths cheights originals orients]) rfl (b_e1 rfl b_e0) 5 rfl (by decide) (st2 := [.int r1]) rfl (fun H locs hw => ?_)
  refine lv_istore (lv' := [(4, .int r1), (0, .ref (a o)), (1, .int i1), (2, .int i2), (3, .int i3)]) hx hb dX3_offer_6 hl (by decide) rfl (fun ls hl => ?_)
  refine lv_aload_n hx hb dX3_offer_8 rfl (lv_at hl 1 rfl) ?_
  refine lv_iload_n hx hb dX3_offer_9 rfl (lv_at hl 3 rfl) ?_
  refine lv_iload_n hx hb dX3_offer_10 rfl (lv_at hl 4 rfl) ?_
  obtain ⟨r2, er2, h⟩ := g_cl_some h
  refine b_callV hx hb hml hown hT hK hA hw mk_X3_149 (c_X3_boxHeight l D g a o aS oS aC oC S lefts tops cwidths cheights originals orients i2 i3 r2 er2) [0, 2, 3, 4] [1] rfl (by decide) 0 0 rfl rfl rfl rfl hl.1 [] rfl (Nat.le_of_ble_eq_true rfl) ⟨Nat.le_of_ble_eq_true rfl, Nat.le_of_ble_eq_true rfl⟩ ⟨Nat.zero_le _, Nat.zero_le _⟩ dX3_offer_11 (wb' := [k_PkO g a o (aS oS) (aC oC), k_Choice g a (o+5) chFound chPage chCol chRow chTurned chFirst chSecond, k_StO g aS oS, k_Settings g aS (oS+6) (S 5 0) (S 5 1) (S 5 2) (S 5 3) (S 5 4) (S 5 5) (S 5 6) (S 5 7) (S 5 8) (S 5 9) (S 5 10) (S 5 11), k_Catalog g aC oC lefts tops cwidths cheights originals orients]) rfl (b_e1 rfl b_e0) 5 rfl (by decide) (st2 := [.int r2]) rfl (fun H locs hw => ?_)
  refine lv_istore (lv' := [(5, .int r2), (4, .int r1), (0, .ref (a o)), (1, .int i1), (2, .int i2), (3, .int i3)]) hx hb dX3_offer_14 hl (by decide) rfl (fun ls hl => ?_)
  refine lv_iload_n hx hb dX3_offer_16 rfl (lv_at hl 3 rfl) ?_
  refine b_callS hx hb hml hown hT hK hA hw mk_X3_238 (c_X7_widthIn l D g i1) [] [0, 1, 2, 3, 4] rfl (by decide) rfl hl.1 [] rfl (Nat.le_of_ble_eq_true rfl) ⟨Nat.le_of_ble_eq_true rfl, Nat.le_of_ble_eq_true rfl⟩ ⟨Nat.zero_le _, Nat.zero_le _⟩ dX3_offer_17 (wb' := [k_PkO g a o (aS oS) (aC oC), k_Choice g a (o+5) chFound chPage chCol chRow chTurned chFirst chSecond, k_StO g aS oS, k_Settings g aS (oS+6) (S 5 0) (S 5 1) (S 5 2) (S 5 3) (S 5 4) (S 5 5) (S 5 6) (S 5 7) (S 5 8) (S 5 9) (S 5 10) (S 5 11), k_Catalog g aC oC lefts tops cwidths cheights originals orients]) rfl (b_e1 rfl (b_e1 rfl (b_e1 rfl (b_e1 rfl (b_e1 rfl b_e0))))) 5 rfl (by decide) (st2 := [.int (f_X7_widthIn i1)]) rfl (fun H locs hw => ?_)
  refine lv_iload hx hb dX3_offer_20 (lv_at hl 1 rfl) ?_
  refine lv_isub hx hb dX3_offer_22 ?_
  obtain ⟨x3, ex3, h⟩ := g_bd_nm h
  refine g_topi ex3 ?_
  refine lv_istore (lv' := [(6, .int x3), (5, .int r2), (4, .int r1), (0, .ref (a o)), (1, .int i1), (2, .int i2), (3, .int i3)]) hx hb dX3_offer_23 hl (by decide) rfl (fun ls hl => ?_)
  refine lv_iload_n hx hb dX3_offer_25 rfl (lv_at hl 4 rfl) ?_
  refine b_callS hx hb hml hown hT hK hA hw mk_X3_241 (c_X7_heightIn l D g i1) [] [0, 1, 2, 3, 4] rfl (by decide) rfl hl.1 [] rfl (Nat.le_of_ble_eq_true rfl) ⟨Nat.le_of_ble_eq_true rfl, Nat.le_of_ble_eq_true rfl⟩ ⟨Nat.zero_le _, Nat.zero_le _⟩ dX3_offer_26 (wb' := [k_PkO g a o (aS oS) (aC oC), k_Choice g a (o+5) chFound chPage chCol chRow chTurned chFirst chSecond, k_StO g aS oS, k_Settings g aS (oS+6) (S 5 0) (S 5 1) (S 5 2) (S 5 3) (S 5 4) (S 5 5) (S 5 6) (S 5 7) (S 5 8) (S 5 9) (S 5 10) (S 5 11), k_Catalog g aC oC lefts tops cwidths cheights originals orients]) rfl (b_e1 rfl (b_e1 rfl (b_e1 rfl (b_e1 rfl (b_e1 rfl b_e0))))) 5 rfl (by decide) (st2 := [.int (f_X7_heightIn i1)]) rfl (fun H locs hw => ?_)
  refine lv_iload hx hb dX3_offer_29 (lv_at hl 1 rfl) ?_
  refine lv_isub hx hb dX3_offer_31 ?_
  obtain ⟨x4, ex4, h⟩ := g_bd_nm h
  refine g_topi ex4 ?_
  refine lv_istore (lv' := [(7, .int x4), (6, .int x3), (5, .int r2), (4, .int r1), (0, .ref (a o)), (1, .int i1), (2, .int i2), (3, .int i3)]) hx hb dX3_offer_32 hl (by decide) rfl (fun ls hl => ?_)
  refine lv_iload hx hb dX3_offer_34 (lv_at hl 1 rfl) ?_
  refine lv_if_lt (tgt := 44) hx hb dX3_offer_36 (by decide) (fun hc36 => ?_) (fun hc36 => ?_)
  · rw [if_pos hc36] at h
    obtain rfl := Option.some.inj h
    exact b_vret hQ hx hb hr hlk hw rfl dX3_offer_44
  · rw [if_neg hc36] at h
    refine lv_iload hx hb dX3_offer_39 (lv_at hl 0 rfl) ?_
    refine lv_if_ge (tgt := 45) hx hb dX3_offer_41 (by decide) (fun hc41 => ?_) (fun hc41 => ?_)
    · rw [if_pos hc41] at h
      refine lv_iload hx hb dX3_offer_45 (lv_at hl 1 rfl) ?_
      refine lv_iload hx hb dX3_offer_47 (lv_at hl 0 rfl) ?_
      refine g_mmin hx hb hml hl.1 hown hT mm_X3_182 (Nat.le_of_ble_eq_true rfl) (Nat.le_of_ble_eq_true rfl) (Nat.zero_le _) (Nat.zero_le _) dX3_offer_49 ?_
      obtain ⟨x5, ex5, h⟩ := g_bd_nm h
      refine g_topi ex5 ?_
      refine lv_istore (lv' := [(8, .int x5), (7, .int x4), (6, .int x3), (5, .int r2), (4, .int r1), (0, .ref (a o)), (1, .int i1), (2, .int i2), (3, .int i3)]) hx hb dX3_offer_52 hl (by decide) rfl (fun ls hl => ?_)
      refine lv_iload hx hb dX3_offer_54 (lv_at hl 2 rfl) ?_
      refine lv_iload hx hb dX3_offer_56 (lv_at hl 1 rfl) ?_
      refine g_mmax hx hb hml hl.1 hown hT mm_X3_101 (Nat.le_of_ble_eq_true rfl) (Nat.le_of_ble_eq_true rfl) (Nat.zero_le _) (Nat.zero_le _) dX3_offer_58 ?_
      obtain ⟨x6, ex6, h⟩ := g_bd_nm h
      refine g_topi ex6 ?_
      refine lv_istore (lv' := [(9, .int x6), (8, .int x5), (7, .int x4), (6, .int x3), (5, .int r2), (4, .int r1), (0, .ref (a o)), (1, .int i1), (2, .int i2), (3, .int i3)]) hx hb dX3_offer_61 hl (by decide) rfl (fun ls hl => ?_)
      refine lv_aload_n hx hb dX3_offer_63 rfl (lv_at hl 6 rfl) ?_
      refine b_get hx hb hT hK hown fl_X3_29 hw 0 0 rfl rfl (v := .ref (aS oS)) rfl dX3_offer_64 ?_
      refine b_get hx hb hT hK hown fl_X3_71 hw 2 0 rfl rfl (v := .ref (aS (oS+6))) rfl dX3_offer_67 ?_
      refine b_get hx hb hT hK hown fl_X3_244 hw 3 0 rfl rfl (v := .int (S 5 11)) rfl dX3_offer_70 ?_
      by_cases hc73_1 : (S 5 11) = 1
      · rw [if_pos hc73_1] at h
        refine lv_tableIn (tgt := 100) hx hb dX3_offer_73 (by rw [hc73_1]; decide) (by rw [hc73_1]; decide) (by rw [hc73_1]; rfl) (by decide) ?_
        refine lv_aload_n hx hb dX3_offer_100 rfl (lv_at hl 6 rfl) ?_
        refine b_get hx hb hT hK hown fl_X3_21 hw 0 0 rfl rfl (v := .ref (a (o+5))) rfl dX3_offer_101 ?_
        refine lv_iload_n hx hb dX3_offer_104 rfl (lv_at hl 7 rfl) ?_
        refine lv_iload_n hx hb dX3_offer_105 rfl (lv_at hl 9 rfl) ?_
        refine lv_iload hx hb dX3_offer_106 (lv_at hl 0 rfl) ?_
        refine lv_iload hx hb dX3_offer_108 (lv_at hl 1 rfl) ?_
        obtain ⟨r7, er7, h⟩ := g_cl_some h
        refine b_callV hx hb hml hown hT hK hA hw mk_X3_247 (c_X1_offer l D g a (o+5) chFound chPage chCol chRow chTurned chFirst chSecond i1 i3 x6 x5 r7 er7) [1] [0, 2, 3, 4] rfl (by decide) 1 0 rfl rfl rfl rfl hl.1 [] rfl (Nat.le_of_ble_eq_true rfl) ⟨Nat.le_of_ble_eq_true rfl, Nat.le_of_ble_eq_true rfl⟩ ⟨Nat.zero_le _, Nat.zero_le _⟩ dX3_offer_110 (wb' := [k_PkO g a o (aS oS) (aC oC), k_Choice g a (o+5) r7.1 chPage r7.2.1 r7.2.2.1 r7.2.2.2.1 r7.2.2.2.2.1 r7.2.2.2.2.2, k_StO g aS oS, k_Settings g aS (oS+6) (S 5 0) (S 5 1) (S 5 2) (S 5 3) (S 5 4) (S 5 5) (S 5 6) (S 5 7) (S 5 8) (S 5 9) (S 5 10) (S 5 11), k_Catalog g aC oC lefts tops cwidths cheights originals orients]) rfl (b_e1 rfl (b_e1 rfl (b_e1 rfl (b_e1 rfl b_e0)))) 5 rfl (by decide) (st2 := []) rfl (fun H locs hw => ?_)
        refine lv_goto (tgt := 181) hx hb dX3_offer_113 (by decide) ?_
        obtain rfl := Option.some.inj h
        exact b_vret hQ hx hb hr hlk hw rfl dX3_offer_181
      · rw [if_neg hc73_1] at h
        by_cases hc73_2 : (S 5 11) = 2
        · rw [if_pos hc73_2] at h
          refine lv_tableIn (tgt := 116) hx hb dX3_offer_73 (by rw [hc73_2]; decide) (by rw [hc73_2]; decide) (by rw [hc73_2]; rfl) (by decide) ?_
          refine lv_aload_n hx hb dX3_offer_116 rfl (lv_at hl 6 rfl) ?_
          refine b_get hx hb hT hK hown fl_X3_21 hw 0 0 rfl rfl (v := .ref (a (o+5))) rfl dX3_offer_117 ?_
          refine lv_iload_n hx hb dX3_offer_120 rfl (lv_at hl 7 rfl) ?_
          refine lv_iload_n hx hb dX3_offer_121 rfl (lv_at hl 9 rfl) ?_
          refine lv_iload_n hx hb dX3_offer_122 rfl (lv_at hl 7 rfl) ?_
          refine b_callS hx hb hml hown hT hK hA hw mk_X3_238 (c_X7_widthIn l D g i1) [] [0, 1, 2, 3, 4] rfl (by decide) rfl hl.1 [.int i3, .int i1, .ref (a (o+5))] rfl (Nat.le_of_ble_eq_true rfl) ⟨Nat.le_of_ble_eq_true rfl, Nat.le_of_ble_eq_true rfl⟩ ⟨Nat.zero_le _, Nat.zero_le _⟩ dX3_offer_123 (wb' := [k_PkO g a o (aS oS) (aC oC), k_Choice g a (o+5) chFound chPage chCol chRow chTurned chFirst chSecond, k_StO g aS oS, k_Settings g aS (oS+6) (S 5 0) (S 5 1) (S 5 2) (S 5 3) (S 5 4) (S 5 5) (S 5 6) (S 5 7) (S 5 8) (S 5 9) (S 5 10) (S 5 11), k_Catalog g aC oC lefts tops cwidths cheights originals orients]) rfl (b_e1 rfl (b_e1 rfl (b_e1 rfl (b_e1 rfl (b_e1 rfl b_e0))))) 5 rfl (by decide) (st2 := [.int (f_X7_widthIn i1), .int i3, .int i1, .ref (a (o+5))]) rfl (fun H locs hw => ?_)
          refine lv_iload_n hx hb dX3_offer_126 rfl (lv_at hl 7 rfl) ?_
          refine b_callS hx hb hml hown hT hK hA hw mk_X3_241 (c_X7_heightIn l D g i1) [] [0, 1, 2, 3, 4] rfl (by decide) rfl hl.1 [.int (f_X7_widthIn i1), .int i3, .int i1, .ref (a (o+5))] rfl (Nat.le_of_ble_eq_true rfl) ⟨Nat.le_of_ble_eq_true rfl, Nat.le_of_ble_eq_true rfl⟩ ⟨Nat.zero_le _, Nat.zero_le _⟩ dX3_offer_127 (wb' := [k_PkO g a o (aS oS) (aC oC), k_Choice g a (o+5) chFound chPage chCol chRow chTurned chFirst chSecond, k_StO g aS oS, k_Settings g aS (oS+6) (S 5 0) (S 5 1) (S 5 2) (S 5 3) (S 5 4) (S 5 5) (S 5 6) (S 5 7) (S 5 8) (S 5 9) (S 5 10) (S 5 11), k_Catalog g aC oC lefts tops cwidths cheights originals orients]) rfl (b_e1 rfl (b_e1 rfl (b_e1 rfl (b_e1 rfl (b_e1 rfl b_e0))))) 5 rfl (by decide) (st2 := [.int (f_X7_heightIn i1), .int (f_X7_widthIn i1), .int i3, .int i1, .ref (a (o+5))]) rfl (fun H locs hw => ?_)
          refine lv_imul hx hb dX3_offer_130 ?_
          refine lv_iload hx hb dX3_offer_131 (lv_at hl 5 rfl) ?_
          refine lv_iload hx hb dX3_offer_133 (lv_at hl 4 rfl) ?_
          refine lv_imul hx hb dX3_offer_135 ?_
          refine lv_isub hx hb dX3_offer_136 ?_
          refine lv_iload hx hb dX3_offer_137 (lv_at hl 1 rfl) ?_
          obtain ⟨r8, er8, h⟩ := g_cl_some h
          refine b_callV hx hb hml hown hT hK hA hw mk_X3_247 (c_X1_offer l D g a (o+5) chFound chPage chCol chRow chTurned chFirst chSecond i1 i3 (((f_X7_widthIn i1) * (f_X7_heightIn i1)) - (r1 * r2)) x5 r8 er8) [1] [0, 2, 3, 4] rfl (by decide) 1 0 rfl rfl rfl rfl hl.1 [] rfl (Nat.le_of_ble_eq_true rfl) ⟨Nat.le_of_ble_eq_true rfl, Nat.le_of_ble_eq_true rfl⟩ ⟨Nat.zero_le _, Nat.zero_le _⟩ dX3_offer_139 (wb' := [k_PkO g a o (aS oS) (aC oC), k_Choice g a (o+5) r8.1 chPage r8.2.1 r8.2.2.1 r8.2.2.2.1 r8.2.2.2.2.1 r8.2.2.2.2.2, k_StO g aS oS, k_Settings g aS (oS+6) (S 5 0) (S 5 1) (S 5 2) (S 5 3) (S 5 4) (S 5 5) (S 5 6) (S 5 7) (S 5 8) (S 5 9) (S 5 10) (S 5 11), k_Catalog g aC oC lefts tops cwidths cheights originals orients]) rfl (b_e1 rfl (b_e1 rfl (b_e1 rfl (b_e1 rfl b_e0)))) 5 rfl (by decide) (st2 := []) rfl (fun H locs hw => ?_)
          refine lv_goto (tgt := 181) hx hb dX3_offer_142 (by decide) ?_
          obtain rfl := Option.some.inj h
          exact b_vret hQ hx hb hr hlk hw rfl dX3_offer_181
        · rw [if_neg hc73_2] at h
          by_cases hc73_3 : (S 5 11) = 3
          · rw [if_pos hc73_3] at h
            refine lv_tableIn (tgt := 145) hx hb dX3_offer_73 (by rw [hc73_3]; decide) (by rw [hc73_3]; decide) (by rw [hc73_3]; rfl) (by decide) ?_
            refine lv_aload_n hx hb dX3_offer_145 rfl (lv_at hl 6 rfl) ?_
            refine b_get hx hb hT hK hown fl_X3_21 hw 0 0 rfl rfl (v := .ref (a (o+5))) rfl dX3_offer_146 ?_
            refine lv_iload_n hx hb dX3_offer_149 rfl (lv_at hl 7 rfl) ?_
            refine lv_iload_n hx hb dX3_offer_150 rfl (lv_at hl 9 rfl) ?_
            refine lv_iload_n hx hb dX3_offer_151 rfl (lv_at hl 7 rfl) ?_
            refine b_callS hx hb hml hown hT hK hA hw mk_X3_250 (c_X7_topIn l D g i1) [] [0, 1, 2, 3, 4] rfl (by decide) rfl hl.1 [.int i3, .int i1, .ref (a (o+5))] rfl (Nat.le_of_ble_eq_true rfl) ⟨Nat.le_of_ble_eq_true rfl, Nat.le_of_ble_eq_true rfl⟩ ⟨Nat.zero_le _, Nat.zero_le _⟩ dX3_offer_152 (wb' := [k_PkO g a o (aS oS) (aC oC), k_Choice g a (o+5) chFound chPage chCol chRow chTurned chFirst chSecond, k_StO g aS oS, k_Settings g aS (oS+6) (S 5 0) (S 5 1) (S 5 2) (S 5 3) (S 5 4) (S 5 5) (S 5 6) (S 5 7) (S 5 8) (S 5 9) (S 5 10) (S 5 11), k_Catalog g aC oC lefts tops cwidths cheights originals orients]) rfl (b_e1 rfl (b_e1 rfl (b_e1 rfl (b_e1 rfl (b_e1 rfl b_e0))))) 5 rfl (by decide) (st2 := [.int (f_X7_topIn i1), .int i3, .int i1, .ref (a (o+5))]) rfl (fun H locs hw => ?_)
            refine lv_iload hx hb dX3_offer_155 (lv_at hl 4 rfl) ?_
            refine lv_iadd hx hb dX3_offer_157 ?_
            refine lv_iload_n hx hb dX3_offer_158 rfl (lv_at hl 7 rfl) ?_
            refine b_callS hx hb hml hown hT hK hA hw mk_X3_253 (c_X7_leftIn l D g i1) [] [0, 1, 2, 3, 4] rfl (by decide) rfl hl.1 [.int ((f_X7_topIn i1) + r2), .int i3, .int i1, .ref (a (o+5))] rfl (Nat.le_of_ble_eq_true rfl) ⟨Nat.le_of_ble_eq_true rfl, Nat.le_of_ble_eq_true rfl⟩ ⟨Nat.zero_le _, Nat.zero_le _⟩ dX3_offer_159 (wb' := [k_PkO g a o (aS oS) (aC oC), k_Choice g a (o+5) chFound chPage chCol chRow chTurned chFirst chSecond, k_StO g aS oS, k_Settings g aS (oS+6) (S 5 0) (S 5 1) (S 5 2) (S 5 3) (S 5 4) (S 5 5) (S 5 6) (S 5 7) (S 5 8) (S 5 9) (S 5 10) (S 5 11), k_Catalog g aC oC lefts tops cwidths cheights originals orients]) rfl (b_e1 rfl (b_e1 rfl (b_e1 rfl (b_e1 rfl (b_e1 rfl b_e0))))) 5 rfl (by decide) (st2 := [.int (f_X7_leftIn i1), .int ((f_X7_topIn i1) + r2), .int i3, .int i1, .ref (a (o+5))]) rfl (fun H locs hw => ?_)
            obtain ⟨r9, er9, h⟩ := g_cl_some h
            refine b_callV hx hb hml hown hT hK hA hw mk_X3_247 (c_X1_offer l D g a (o+5) chFound chPage chCol chRow chTurned chFirst chSecond i1 i3 ((f_X7_topIn i1) + r2) (f_X7_leftIn i1) r9 er9) [1] [0, 2, 3, 4] rfl (by decide) 1 0 rfl rfl rfl rfl hl.1 [] rfl (Nat.le_of_ble_eq_true rfl) ⟨Nat.le_of_ble_eq_true rfl, Nat.le_of_ble_eq_true rfl⟩ ⟨Nat.zero_le _, Nat.zero_le _⟩ dX3_offer_162 (wb' := [k_PkO g a o (aS oS) (aC oC), k_Choice g a (o+5) r9.1 chPage r9.2.1 r9.2.2.1 r9.2.2.2.1 r9.2.2.2.2.1 r9.2.2.2.2.2, k_StO g aS oS, k_Settings g aS (oS+6) (S 5 0) (S 5 1) (S 5 2) (S 5 3) (S 5 4) (S 5 5) (S 5 6) (S 5 7) (S 5 8) (S 5 9) (S 5 10) (S 5 11), k_Catalog g aC oC lefts tops cwidths cheights originals orients]) rfl (b_e1 rfl (b_e1 rfl (b_e1 rfl (b_e1 rfl b_e0)))) 5 rfl (by decide) (st2 := []) rfl (fun H locs hw => ?_)
            refine lv_goto (tgt := 181) hx hb dX3_offer_165 (by decide) ?_
            obtain rfl := Option.some.inj h
            exact b_vret hQ hx hb hr hlk hw rfl dX3_offer_181
          · rw [if_neg hc73_3] at h
            refine lv_tableOut (tgt := 168) hx hb dX3_offer_73 (g_swout 1 3 (by decide) (by decide) (fun k h1 h2 => by rcases (show k = 1 ∨ k = 2 ∨ k = 3 by omega) with rfl | rfl | rfl <;> first | exact hc73_1 | exact hc73_2 | exact hc73_3)) (by decide) ?_
            refine lv_aload_n hx hb dX3_offer_168 rfl (lv_at hl 6 rfl) ?_
            refine b_get hx hb hT hK hown fl_X3_21 hw 0 0 rfl rfl (v := .ref (a (o+5))) rfl dX3_offer_169 ?_
            refine lv_iload_n hx hb dX3_offer_172 rfl (lv_at hl 7 rfl) ?_
            refine lv_iload_n hx hb dX3_offer_173 rfl (lv_at hl 9 rfl) ?_
            refine lv_iload hx hb dX3_offer_174 (lv_at hl 1 rfl) ?_
            refine lv_iload hx hb dX3_offer_176 (lv_at hl 0 rfl) ?_
            obtain ⟨r10, er10, h⟩ := g_cl_some h
            refine b_callV hx hb hml hown hT hK hA hw mk_X3_247 (c_X1_offer l D g a (o+5) chFound chPage chCol chRow chTurned chFirst chSecond i1 i3 x5 x6 r10 er10) [1] [0, 2, 3, 4] rfl (by decide) 1 0 rfl rfl rfl rfl hl.1 [] rfl (Nat.le_of_ble_eq_true rfl) ⟨Nat.le_of_ble_eq_true rfl, Nat.le_of_ble_eq_true rfl⟩ ⟨Nat.zero_le _, Nat.zero_le _⟩ dX3_offer_178 (wb' := [k_PkO g a o (aS oS) (aC oC), k_Choice g a (o+5) r10.1 chPage r10.2.1 r10.2.2.1 r10.2.2.2.1 r10.2.2.2.2.1 r10.2.2.2.2.2, k_StO g aS oS, k_Settings g aS (oS+6) (S 5 0) (S 5 1) (S 5 2) (S 5 3) (S 5 4) (S 5 5) (S 5 6) (S 5 7) (S 5 8) (S 5 9) (S 5 10) (S 5 11), k_Catalog g aC oC lefts tops cwidths cheights originals orients]) rfl (b_e1 rfl (b_e1 rfl (b_e1 rfl (b_e1 rfl b_e0)))) 5 rfl (by decide) (st2 := []) rfl (fun H locs hw => ?_)
            obtain rfl := Option.some.inj h
            exact b_vret hQ hx hb hr hlk hw rfl dX3_offer_181
    · rw [if_neg hc41] at h
      obtain rfl := Option.some.inj h
      exact b_vret hQ hx hb hr hlk hw rfl dX3_offer_44
set_option maxRecDepth 100000 in
set_option maxHeartbeats 4000000 in
theorem c_X3_offerBoth (l : Launch) (D : va_G) (g : Nat → ClassId) (a : Nat → Nat) (o : Nat) (aS : Nat → Nat) (oS : Nat) (aC : Nat → Nat) (oC : Nat) (chFound : Int32) (chPage : Int32) (chCol : Int32) (chRow : Int32) (chTurned : Int32) (chFirst : Int32) (chSecond : Int32) (S : Nat → Nat → Int32) (lefts : (Nat → Int32)) (tops : (Nat → Int32)) (cwidths : (Nat → Int32)) (cheights : (Nat → Int32)) (originals : (Nat → Int32)) (orients : (Nat → Int32)) (i1 : Int32) (i2 : Int32) (u : Int32 × Int32 × Int32 × Int32 × Int32 × Int32) (h : f_X3_offerBoth chFound chCol chRow chTurned chFirst chSecond S cwidths cheights i1 i2 = some u) : b_Ct l yX3_offerBoth cX3_offerBoth 3 none 3 74 D g [.ref (a o), .int i1, .int i2] [k_PkO g a o (aS oS) (aC oC), k_Choice g a (o+5) chFound chPage chCol chRow chTurned chFirst chSecond, k_StO g aS oS, k_Settings g aS (oS+6) (S 5 0) (S 5 1) (S 5 2) (S 5 3) (S 5 4) (S 5 5) (S 5 6) (S 5 7) (S 5 8) (S 5 9) (S 5 10) (S 5 11), k_Catalog g aC oC lefts tops cwidths cheights originals orients] [k_PkO g a o (aS oS) (aC oC), k_Choice g a (o+5) u.1 chPage u.2.1 u.2.2.1 u.2.2.2.1 u.2.2.2.2.1 u.2.2.2.2.2, k_StO g aS oS, k_Settings g aS (oS+6) (S 5 0) (S 5 1) (S 5 2) (S 5 3) (S 5 4) (S 5 5) (S 5 6) (S 5 7) (S 5 8) (S 5 9) (S 5 10) (S 5 11), k_Catalog g aC oC lefts tops cwidths cheights originals orients] none := by
  refine b_start RX3 (by decide) rfl (Nat.le_of_ble_eq_true rfl) rfl ?_
  intro p e s m args below meth c A ls Q hQ hx hb hr hlk hml hown hT hK hA hw hl
  have hl : lv_has ls 3 [(0, .ref (a o)), (1, .int i1), (2, .int i2)] := hl
  unfold f_X3_offerBoth at h
  refine lv_aload_n hx hb dX3_offerBoth_0 rfl (lv_at hl 0 rfl) ?_
  refine lv_iload_n hx hb dX3_offerBoth_1 rfl (lv_at hl 1 rfl) ?_
  refine lv_iload_n hx hb dX3_offerBoth_2 rfl (lv_at hl 2 rfl) ?_
  refine lv_iconst (v := 0) hx hb dX3_offerBoth_3 (by decide) ?_
  obtain ⟨r1, er1, h⟩ := g_cl_some h
  refine b_callV hx hb hml hown hT hK hA hw mk_X3_231 (c_X3_offer l D g a o aS oS aC oC chFound chPage chCol chRow chTurned chFirst chSecond S lefts tops cwidths cheights originals orients i1 i2 (0 : Int32) r1 er1) [0, 1, 2, 3, 4] [] rfl (by decide) 0 0 rfl rfl rfl rfl hl.1 [] rfl (Nat.le_of_ble_eq_true rfl) ⟨Nat.le_of_ble_eq_true rfl, Nat.le_of_ble_eq_true rfl⟩ ⟨Nat.zero_le _, Nat.zero_le _⟩ dX3_offerBoth_4 (wb' := [k_PkO g a o (aS oS) (aC oC), k_Choice g a (o+5) r1.1 chPage r1.2.1 r1.2.2.1 r1.2.2.2.1 r1.2.2.2.2.1 r1.2.2.2.2.2, k_StO g aS oS, k_Settings g aS (oS+6) (S 5 0) (S 5 1) (S 5 2) (S 5 3) (S 5 4) (S 5 5) (S 5 6) (S 5 7) (S 5 8) (S 5 9) (S 5 10) (S 5 11), k_Catalog g aC oC lefts tops cwidths cheights originals orients]) rfl b_e0 5 rfl (by decide) (st2 := []) rfl (fun H locs hw => ?_)
  refine lv_aload_n hx hb dX3_offerBoth_7 rfl (lv_at hl 0 rfl) ?_
  refine b_get hx hb hT hK hown fl_X3_29 hw 0 0 rfl rfl (v := .ref (aS oS)) rfl dX3_offerBoth_8 ?_
  refine b_get hx hb hT hK hown fl_X3_71 hw 2 0 rfl rfl (v := .ref (aS (oS+6))) rfl dX3_offerBoth_11 ?_
  refine b_get hx hb hT hK hown fl_X3_235 hw 3 0 rfl rfl (v := .int (S 5 8)) rfl dX3_offerBoth_14 ?_
  refine lv_if_eq (tgt := 27) hx hb dX3_offerBoth_17 (by decide) (fun hc17 => ?_) (fun hc17 => ?_)
  · rw [if_pos hc17] at h
    obtain rfl := Option.some.inj h
    exact b_vret hQ hx hb hr hlk hw rfl dX3_offerBoth_27
  · rw [if_neg hc17] at h
    refine lv_aload_n hx hb dX3_offerBoth_20 rfl (lv_at hl 0 rfl) ?_
    refine lv_iload_n hx hb dX3_offerBoth_21 rfl (lv_at hl 1 rfl) ?_
    refine lv_iload_n hx hb dX3_offerBoth_22 rfl (lv_at hl 2 rfl) ?_
    refine lv_iconst (v := 1) hx hb dX3_offerBoth_23 (by decide) ?_
    obtain ⟨r2, er2, h⟩ := g_cl_some h
    refine b_callV hx hb hml hown hT hK hA hw mk_X3_231 (c_X3_offer l D g a o aS oS aC oC r1.1 chPage r1.2.1 r1.2.2.1 r1.2.2.2.1 r1.2.2.2.2.1 r1.2.2.2.2.2 S lefts tops cwidths cheights originals orients i1 i2 (1 : Int32) r2 er2) [0, 1, 2, 3, 4] [] rfl (by decide) 0 0 rfl rfl rfl rfl hl.1 [] rfl (Nat.le_of_ble_eq_true rfl) ⟨Nat.le_of_ble_eq_true rfl, Nat.le_of_ble_eq_true rfl⟩ ⟨Nat.zero_le _, Nat.zero_le _⟩ dX3_offerBoth_24 (wb' := [k_PkO g a o (aS oS) (aC oC), k_Choice g a (o+5) r2.1 chPage r2.2.1 r2.2.2.1 r2.2.2.2.1 r2.2.2.2.2.1 r2.2.2.2.2.2, k_StO g aS oS, k_Settings g aS (oS+6) (S 5 0) (S 5 1) (S 5 2) (S 5 3) (S 5 4) (S 5 5) (S 5 6) (S 5 7) (S 5 8) (S 5 9) (S 5 10) (S 5 11), k_Catalog g aC oC lefts tops cwidths cheights originals orients]) rfl b_e0 5 rfl (by decide) (st2 := []) rfl (fun H locs hw => ?_)
    obtain rfl := Option.some.inj h
    exact b_vret hQ hx hb hr hlk hw rfl dX3_offerBoth_27
