set_option maxRecDepth 100000 in
set_option maxHeartbeats 4000000 in
theorem c_X3_colorOn (l : Launch) (D : va_G) (g : Nat → ClassId) (a : Nat → Nat) (o : Nat) (aS : Nat → Nat) (oS : Nat) (aC : Nat → Nat) (oC : Nat) (S : Nat → Nat → Int32) (lefts : (Nat → Int32)) (tops : (Nat → Int32)) (cwidths : (Nat → Int32)) (cheights : (Nat → Int32)) (originals : (Nat → Int32)) (orients : (Nat → Int32)) (i1 : Int32) (i2 : Int32) (i3 : Int32) (u : Int32) (h : f_X3_colorOn S lefts tops cwidths cheights i1 i2 i3 = some u) : b_Ct l yX3_colorOn cX3_colorOn 7 (some .int) 2 54 D g [.ref (a o), .int i1, .int i2, .int i3] [k_PkO g a o (aS oS) (aC oC), k_StO g aS oS, k_Sheet g aS (oS+1) (S 0 0) (S 1) (S 2) (S 3) (S 4), k_Settings g aS (oS+6) (S 5 0) (S 5 1) (S 5 2) (S 5 3) (S 5 4) (S 5 5) (S 5 6) (S 5 7) (S 5 8) (S 5 9) (S 5 10) (S 5 11), k_Places g aS (oS+7) (S 6 0) (S 7) (S 8) (S 9) (S 10) (S 11), k_Catalog g aC oC lefts tops cwidths cheights originals orients] [k_PkO g a o (aS oS) (aC oC), k_StO g aS oS, k_Sheet g aS (oS+1) (S 0 0) (S 1) (S 2) (S 3) (S 4), k_Settings g aS (oS+6) (S 5 0) (S 5 1) (S 5 2) (S 5 3) (S 5 4) (S 5 5) (S 5 6) (S 5 7) (S 5 8) (S 5 9) (S 5 10) (S 5 11), k_Places g aS (oS+7) (S 6 0) (S 7) (S 8) (S 9) (S 10) (S 11), k_Catalog g aC oC lefts tops cwidths cheights originals orients] (some (.int u)) := by
  refine b_start RX3 (by decide) rfl (Nat.le_of_ble_eq_true rfl) rfl ?_
  intro p e s m args below meth c A ls Q hQ hx hb hr hlk hml hown hT hK hA hw hl
  have hl : lv_has ls 7 [(0, .ref (a o)), (1, .int i1), (2, .int i2), (3, .int i3)] := hl
  unfold f_X3_colorOn at h
  refine lv_aload_n hx hb dX3_colorOn_0 rfl (lv_at hl 0 rfl) ?_
  refine lv_iload_n hx hb dX3_colorOn_1 rfl (lv_at hl 1 rfl) ?_
  refine lv_iload_n hx hb dX3_colorOn_2 rfl (lv_at hl 2 rfl) ?_
  refine lv_iload_n hx hb dX3_colorOn_3 rfl (lv_at hl 3 rfl) ?_
  obtain ⟨r1, er1, h⟩ := g_cl_some h
  refine b_callV hx hb hml hown hT hK hA hw mk_X3_178 (c_X3_ownerOf l D g a o aS oS aC oC S lefts tops cwidths cheights originals orients i1 i2 i3 r1 er1) [0, 1, 2, 3, 4, 5] [] rfl (by decide) 0 0 rfl rfl rfl rfl hl.1 [] rfl (Nat.le_of_ble_eq_true rfl) ⟨Nat.le_of_ble_eq_true rfl, Nat.le_of_ble_eq_true rfl⟩ ⟨Nat.zero_le _, Nat.zero_le _⟩ dX3_colorOn_4 (wb' := [k_PkO g a o (aS oS) (aC oC), k_StO g aS oS, k_Sheet g aS (oS+1) (S 0 0) (S 1) (S 2) (S 3) (S 4), k_Settings g aS (oS+6) (S 5 0) (S 5 1) (S 5 2) (S 5 3) (S 5 4) (S 5 5) (S 5 6) (S 5 7) (S 5 8) (S 5 9) (S 5 10) (S 5 11), k_Places g aS (oS+7) (S 6 0) (S 7) (S 8) (S 9) (S 10) (S 11), k_Catalog g aC oC lefts tops cwidths cheights originals orients]) rfl b_e0 6 rfl (by decide) (st2 := [.int r1]) rfl (fun H locs hw => ?_)
  refine lv_istore (lv' := [(4, .int r1), (0, .ref (a o)), (1, .int i1), (2, .int i2), (3, .int i3)]) hx hb dX3_colorOn_7 hl (by decide) rfl (fun ls hl => ?_)
  refine lv_iload hx hb dX3_colorOn_9 (lv_at hl 0 rfl) ?_
  refine lv_bipush (v := -4) hx hb dX3_colorOn_11 (by decide) ?_
  refine lv_icmp_ne (tgt := 18) hx hb dX3_colorOn_13 (by decide) (fun hc13 => ?_) (fun hc13 => ?_)
  · rw [if_neg hc13] at h
    refine lv_iconst (v := 0) hx hb dX3_colorOn_18 (by decide) ?_
    refine lv_iload_n hx hb dX3_colorOn_19 rfl (lv_at hl 3 rfl) ?_
    refine lv_aload_n hx hb dX3_colorOn_20 rfl (lv_at hl 1 rfl) ?_
    refine lv_iload hx hb dX3_colorOn_21 (lv_at hl 0 rfl) ?_
    obtain ⟨r2, er2, h⟩ := g_cl_some h
    refine b_callV hx hb hml hown hT hK hA hw mk_X3_165 (c_X3_imageColumn l D g a o aS oS aC oC S r1 r2 er2) [0, 1, 3, 4] [2, 5] rfl (by decide) 0 0 rfl rfl rfl rfl hl.1 [.int i2, .int (0 : Int32)] rfl (Nat.le_of_ble_eq_true rfl) ⟨Nat.le_of_ble_eq_true rfl, Nat.le_of_ble_eq_true rfl⟩ ⟨Nat.zero_le _, Nat.zero_le _⟩ dX3_colorOn_23 (wb' := [k_PkO g a o (aS oS) (aC oC), k_StO g aS oS, k_Sheet g aS (oS+1) (S 0 0) (S 1) (S 2) (S 3) (S 4), k_Settings g aS (oS+6) (S 5 0) (S 5 1) (S 5 2) (S 5 3) (S 5 4) (S 5 5) (S 5 6) (S 5 7) (S 5 8) (S 5 9) (S 5 10) (S 5 11), k_Places g aS (oS+7) (S 6 0) (S 7) (S 8) (S 9) (S 10) (S 11), k_Catalog g aC oC lefts tops cwidths cheights originals orients]) rfl (b_e1 rfl (b_e1 rfl b_e0)) 6 rfl (by decide) (st2 := [.int r2, .int i2, .int (0 : Int32)]) rfl (fun H locs hw => ?_)
    refine lv_isub hx hb dX3_colorOn_26 ?_
    refine lv_aload_n hx hb dX3_colorOn_27 rfl (lv_at hl 1 rfl) ?_
    refine lv_iload hx hb dX3_colorOn_28 (lv_at hl 0 rfl) ?_
    obtain ⟨r3, er3, h⟩ := g_cl_some h
    refine b_callV hx hb hml hown hT hK hA hw mk_X3_172 (c_X3_imageWidth l D g a o aS oS aC oC S lefts tops cwidths cheights originals orients r1 r3 er3) [0, 1, 4, 5] [2, 3] rfl (by decide) 0 0 rfl rfl rfl rfl hl.1 [.int (i2 - r2), .int (0 : Int32)] rfl (Nat.le_of_ble_eq_true rfl) ⟨Nat.le_of_ble_eq_true rfl, Nat.le_of_ble_eq_true rfl⟩ ⟨Nat.zero_le _, Nat.zero_le _⟩ dX3_colorOn_30 (wb' := [k_PkO g a o (aS oS) (aC oC), k_StO g aS oS, k_Sheet g aS (oS+1) (S 0 0) (S 1) (S 2) (S 3) (S 4), k_Settings g aS (oS+6) (S 5 0) (S 5 1) (S 5 2) (S 5 3) (S 5 4) (S 5 5) (S 5 6) (S 5 7) (S 5 8) (S 5 9) (S 5 10) (S 5 11), k_Places g aS (oS+7) (S 6 0) (S 7) (S 8) (S 9) (S 10) (S 11), k_Catalog g aC oC lefts tops cwidths cheights originals orients]) rfl (b_e1 rfl (b_e1 rfl b_e0)) 6 rfl (by decide) (st2 := [.int r3, .int (i2 - r2), .int (0 : Int32)]) rfl (fun H locs hw => ?_)
    refine lv_iconst (v := 1) hx hb dX3_colorOn_33 (by decide) ?_
    refine lv_isub hx hb dX3_colorOn_34 ?_
    refine g_mmin hx hb hml hl.1 hown hT mm_X3_182 (Nat.le_of_ble_eq_true rfl) (Nat.le_of_ble_eq_true rfl) (Nat.zero_le _) (Nat.zero_le _) dX3_colorOn_35 ?_
    refine g_mmax hx hb hml hl.1 hown hT mm_X3_101 (Nat.le_of_ble_eq_true rfl) (Nat.le_of_ble_eq_true rfl) (Nat.zero_le _) (Nat.zero_le _) dX3_colorOn_38 ?_
    obtain ⟨x4, ex4, h⟩ := g_bd_nm h
    refine g_topi ex4 ?_
    refine lv_istore (lv' := [(5, .int x4), (4, .int r1), (0, .ref (a o)), (1, .int i1), (2, .int i2), (3, .int i3)]) hx hb dX3_colorOn_41 hl (by decide) rfl (fun ls hl => ?_)
    refine lv_iconst (v := 0) hx hb dX3_colorOn_43 (by decide) ?_
    refine lv_iload_n hx hb dX3_colorOn_44 rfl (lv_at hl 5 rfl) ?_
    refine lv_aload_n hx hb dX3_colorOn_45 rfl (lv_at hl 2 rfl) ?_
    refine lv_iload hx hb dX3_colorOn_46 (lv_at hl 1 rfl) ?_
    obtain ⟨r5, er5, h⟩ := g_cl_some h
    refine b_callV hx hb hml hown hT hK hA hw mk_X3_169 (c_X3_imageRow l D g a o aS oS aC oC S r1 r5 er5) [0, 1, 3, 4] [2, 5] rfl (by decide) 0 0 rfl rfl rfl rfl hl.1 [.int i3, .int (0 : Int32)] rfl (Nat.le_of_ble_eq_true rfl) ⟨Nat.le_of_ble_eq_true rfl, Nat.le_of_ble_eq_true rfl⟩ ⟨Nat.zero_le _, Nat.zero_le _⟩ dX3_colorOn_48 (wb' := [k_PkO g a o (aS oS) (aC oC), k_StO g aS oS, k_Sheet g aS (oS+1) (S 0 0) (S 1) (S 2) (S 3) (S 4), k_Settings g aS (oS+6) (S 5 0) (S 5 1) (S 5 2) (S 5 3) (S 5 4) (S 5 5) (S 5 6) (S 5 7) (S 5 8) (S 5 9) (S 5 10) (S 5 11), k_Places g aS (oS+7) (S 6 0) (S 7) (S 8) (S 9) (S 10) (S 11), k_Catalog g aC oC lefts tops cwidths cheights originals orients]) rfl (b_e1 rfl (b_e1 rfl b_e0)) 6 rfl (by decide) (st2 := [.int r5, .int i3, .int (0 : Int32)]) rfl (fun H locs hw => ?_)
    refine lv_isub hx hb dX3_colorOn_51 ?_
    refine lv_aload_n hx hb dX3_colorOn_52 rfl (lv_at hl 2 rfl) ?_
    refine lv_iload hx hb dX3_colorOn_53 (lv_at hl 1 rfl) ?_
    obtain ⟨r6, er6, h⟩ := g_cl_some h
    refine b_callV hx hb hml hown hT hK hA hw mk_X3_175 (c_X3_imageHeight l D g a o aS oS aC oC S lefts tops cwidths cheights originals orients r1 r6 er6) [0, 1, 4, 5] [2, 3] rfl (by decide) 0 0 rfl rfl rfl rfl hl.1 [.int (i3 - r5), .int (0 : Int32)] rfl (Nat.le_of_ble_eq_true rfl) ⟨Nat.le_of_ble_eq_true rfl, Nat.le_of_ble_eq_true rfl⟩ ⟨Nat.zero_le _, Nat.zero_le _⟩ dX3_colorOn_55 (wb' := [k_PkO g a o (aS oS) (aC oC), k_StO g aS oS, k_Sheet g aS (oS+1) (S 0 0) (S 1) (S 2) (S 3) (S 4), k_Settings g aS (oS+6) (S 5 0) (S 5 1) (S 5 2) (S 5 3) (S 5 4) (S 5 5) (S 5 6) (S 5 7) (S 5 8) (S 5 9) (S 5 10) (S 5 11), k_Places g aS (oS+7) (S 6 0) (S 7) (S 8) (S 9) (S 10) (S 11), k_Catalog g aC oC lefts tops cwidths cheights originals orients]) rfl (b_e1 rfl (b_e1 rfl b_e0)) 6 rfl (by decide) (st2 := [.int r6, .int (i3 - r5), .int (0 : Int32)]) rfl (fun H locs hw => ?_)
    refine lv_iconst (v := 1) hx hb dX3_colorOn_58 (by decide) ?_
    refine lv_isub hx hb dX3_colorOn_59 ?_
    refine g_mmin hx hb hml hl.1 hown hT mm_X3_182 (Nat.le_of_ble_eq_true rfl) (Nat.le_of_ble_eq_true rfl) (Nat.zero_le _) (Nat.zero_le _) dX3_colorOn_60 ?_
    refine g_mmax hx hb hml hl.1 hown hT mm_X3_101 (Nat.le_of_ble_eq_true rfl) (Nat.le_of_ble_eq_true rfl) (Nat.zero_le _) (Nat.zero_le _) dX3_colorOn_63 ?_
    obtain ⟨x7, ex7, h⟩ := g_bd_nm h
    refine g_topi ex7 ?_
    refine lv_istore (lv' := [(6, .int x7), (5, .int x4), (4, .int r1), (0, .ref (a o)), (1, .int i1), (2, .int i2), (3, .int i3)]) hx hb dX3_colorOn_66 hl (by decide) rfl (fun ls hl => ?_)
    refine lv_aload_n hx hb dX3_colorOn_68 rfl (lv_at hl 3 rfl) ?_
    refine b_get hx hb hT hK hown fl_X3_33 hw 0 0 rfl rfl (v := .ref (aC oC)) rfl dX3_colorOn_69 ?_
    refine lv_aload_n hx hb dX3_colorOn_72 rfl (lv_at hl 3 rfl) ?_
    refine b_get hx hb hT hK hown fl_X3_29 hw 0 0 rfl rfl (v := .ref (aS oS)) rfl dX3_colorOn_73 ?_
    refine b_get hx hb hT hK hown fl_X3_92 hw 1 0 rfl rfl (v := .ref (aS (oS+1))) rfl dX3_colorOn_76 ?_
    refine lv_iload hx hb dX3_colorOn_79 (lv_at hl 2 rfl) ?_
    refine lv_aload_n hx hb dX3_colorOn_81 rfl (lv_at hl 3 rfl) ?_
    refine b_get hx hb hT hK hown fl_X3_29 hw 0 0 rfl rfl (v := .ref (aS oS)) rfl dX3_colorOn_82 ?_
    refine b_get hx hb hT hK hown fl_X3_37 hw 1 0 rfl rfl (v := .ref (aS (oS+7))) rfl dX3_colorOn_85 ?_
    refine b_get hx hb hT hK hown fl_X3_122 hw 4 0 rfl rfl (v := .ref (aS (oS+12))) rfl dX3_colorOn_88 ?_
    refine lv_iload hx hb dX3_colorOn_91 (lv_at hl 2 rfl) ?_
    obtain ⟨x8, ex8, hix8, h⟩ := g_rd_some h
    refine b_zald hx hb hK hw 4 5 rfl (f := (S 11)) rfl hix8 ex8 dX3_colorOn_93 ?_
    obtain ⟨j102_9, ej102_9, h⟩ := g_bd_k h
    have hj102_9 : ∀ (x9 : Int32) (H : Heap) (locs : List Loc) (ls : Array Slot), b_Wd D A s.heap H locs [k_PkO g a o (aS oS) (aC oC), k_StO g aS oS, k_Sheet g aS (oS+1) (S 0 0) (S 1) (S 2) (S 3) (S 4), k_Settings g aS (oS+6) (S 5 0) (S 5 1) (S 5 2) (S 5 3) (S 5 4) (S 5 5) (S 5 6) (S 5 7) (S 5 8) (S 5 9) (S 5 10) (S 5 11), k_Places g aS (oS+7) (S 6 0) (S 7) (S 8) (S 9) (S 10) (S 11), k_Catalog g aC oC lefts tops cwidths cheights originals orients] → lv_has ls 7 [(5, .int x4), (6, .int x7)] → j102_9 x9 = some u → W p l e (g_rm 2 54) s m args below meth c H locs 0 0 Q (F0 m 102 ls [.int x9, .int r1, .ref (aS (oS+1)), .ref (aC oC)]) := by
      intro x9 H locs ls hw hl h
      subst ej102_9
      dsimp only at h
      refine lv_iload hx hb dX3_colorOn_102 (lv_at hl 0 rfl) ?_
      refine lv_iload hx hb dX3_colorOn_104 (lv_at hl 1 rfl) ?_
      obtain ⟨r10, er10, h⟩ := g_cl_some h
      refine b_callV hx hb hml hown hT hK hA hw mk_X3_185 (c_X0_colorIn l D g aC oC aS (oS+1) lefts tops cwidths cheights originals orients (S 0 0) (S 1) (S 2) (S 3) (S 4) r1 x9 x4 x7 r10 er10) [5, 2] [0, 1, 3, 4] rfl (by decide) 5 0 rfl rfl rfl rfl hl.1 [] rfl (Nat.le_of_ble_eq_true rfl) ⟨Nat.le_of_ble_eq_true rfl, Nat.le_of_ble_eq_true rfl⟩ ⟨Nat.zero_le _, Nat.zero_le _⟩ dX3_colorOn_106 (wb' := [k_PkO g a o (aS oS) (aC oC), k_StO g aS oS, k_Sheet g aS (oS+1) (S 0 0) (S 1) (S 2) (S 3) (S 4), k_Settings g aS (oS+6) (S 5 0) (S 5 1) (S 5 2) (S 5 3) (S 5 4) (S 5 5) (S 5 6) (S 5 7) (S 5 8) (S 5 9) (S 5 10) (S 5 11), k_Places g aS (oS+7) (S 6 0) (S 7) (S 8) (S 9) (S 10) (S 11), k_Catalog g aC oC lefts tops cwidths cheights originals orients]) rfl (b_e1 rfl (b_e1 rfl (b_e1 rfl (b_e1 rfl b_e0)))) 6 rfl (by decide) (st2 := [.int r10]) rfl (fun H locs hw => ?_)
      obtain rfl := Option.some.inj h
      exact b_iret hQ hx hb hr hlk hw rfl dX3_colorOn_109
    refine lv_if_eq (tgt := 101) hx hb dX3_colorOn_94 (by decide) (fun hc94 => ?_) (fun hc94 => ?_)
    · rw [if_pos hc94] at h
      refine lv_iconst (v := 0) hx hb dX3_colorOn_101 (by decide) ?_
      exact hj102_9 (0 : Int32) _ _ _ hw (lv_sub hl [1, 0] rfl) h
    · rw [if_neg hc94] at h
      refine lv_iconst (v := 1) hx hb dX3_colorOn_97 (by decide) ?_
      refine lv_goto (tgt := 102) hx hb dX3_colorOn_98 (by decide) ?_
      exact hj102_9 (1 : Int32) _ _ _ hw (lv_sub hl [1, 0] rfl) h
  · rw [if_pos hc13] at h
    refine lv_iconst (v := 0) hx hb dX3_colorOn_16 (by decide) ?_
    obtain rfl := Option.some.inj h
    exact b_iret hQ hx hb hr hlk hw rfl dX3_colorOn_17
set_option maxRecDepth 100000 in
set_option maxHeartbeats 4000000 in
theorem c_X3_usedColumns (l : Launch) (D : va_G) (g : Nat → ClassId) (a : Nat → Nat) (o : Nat) (aS : Nat → Nat) (oS : Nat) (aC : Nat → Nat) (oC : Nat) (S : Nat → Nat → Int32) (lefts : (Nat → Int32)) (tops : (Nat → Int32)) (cwidths : (Nat → Int32)) (cheights : (Nat → Int32)) (originals : (Nat → Int32)) (orients : (Nat → Int32)) (i1 : Int32) (u : Int32) (h : f_X3_usedColumns S cwidths cheights i1 = some u) : b_Ct l yX3_usedColumns cX3_usedColumns 4 (some .int) 1 21 D g [.ref (a o), .int i1] [k_PkO g a o (aS oS) (aC oC), k_StO g aS oS, k_Sheet g aS (oS+1) (S 0 0) (S 1) (S 2) (S 3) (S 4), k_Settings g aS (oS+6) (S 5 0) (S 5 1) (S 5 2) (S 5 3) (S 5 4) (S 5 5) (S 5 6) (S 5 7) (S 5 8) (S 5 9) (S 5 10) (S 5 11), k_Places g aS (oS+7) (S 6 0) (S 7) (S 8) (S 9) (S 10) (S 11), k_Catalog g aC oC lefts tops cwidths cheights originals orients] [k_PkO g a o (aS oS) (aC oC), k_StO g aS oS, k_Sheet g aS (oS+1) (S 0 0) (S 1) (S 2) (S 3) (S 4), k_Settings g aS (oS+6) (S 5 0) (S 5 1) (S 5 2) (S 5 3) (S 5 4) (S 5 5) (S 5 6) (S 5 7) (S 5 8) (S 5 9) (S 5 10) (S 5 11), k_Places g aS (oS+7) (S 6 0) (S 7) (S 8) (S 9) (S 10) (S 11), k_Catalog g aC oC lefts tops cwidths cheights originals orients] (some (.int u)) := by
  refine b_start RX3 (by decide) rfl (Nat.le_of_ble_eq_true rfl) rfl ?_
  intro p e s m args below meth c A ls Q hQ hx hb hr hlk hml hown hT hK hA hw hl
  have hl : lv_has ls 4 [(0, .ref (a o)), (1, .int i1)] := hl
  unfold f_X3_usedColumns at h
  refine lv_aload_n hx hb dX3_usedColumns_0 rfl (lv_at hl 0 rfl) ?_
  refine b_get hx hb hT hK hown fl_X3_29 hw 0 0 rfl rfl (v := .ref (aS oS)) rfl dX3_usedColumns_1 ?_
  refine b_get hx hb hT hK hown fl_X3_71 hw 1 0 rfl rfl (v := .ref (aS (oS+6))) rfl dX3_usedColumns_4 ?_
  refine b_get hx hb hT hK hown fl_X3_159 hw 3 0 rfl rfl (v := .int (S 5 4)) rfl dX3_usedColumns_7 ?_
  refine lv_istore_n (lv' := [(2, .int (S 5 4)), (0, .ref (a o)), (1, .int i1)]) hx hb dX3_usedColumns_10 rfl hl (by decide) rfl (fun ls hl => ?_)
  refine lv_iconst (v := 0) hx hb dX3_usedColumns_11 (by decide) ?_
  refine lv_istore_n (lv' := [(3, .int (0 : Int32)), (2, .int (S 5 4)), (0, .ref (a o)), (1, .int i1)]) hx hb dX3_usedColumns_12 rfl hl (by decide) rfl (fun ls hl => ?_)
  obtain ⟨k76_1, ek76_1, h⟩ := g_jn_nm h
  have hk76_1 : ∀ (x1 : Int32) (H : Heap) (locs : List Loc) (ls : Array Slot), b_Wd D A s.heap H locs [k_PkO g a o (aS oS) (aC oC), k_StO g aS oS, k_Sheet g aS (oS+1) (S 0 0) (S 1) (S 2) (S 3) (S 4), k_Settings g aS (oS+6) (S 5 0) (S 5 1) (S 5 2) (S 5 3) (S 5 4) (S 5 5) (S 5 6) (S 5 7) (S 5 8) (S 5 9) (S 5 10) (S 5 11), k_Places g aS (oS+7) (S 6 0) (S 7) (S 8) (S 9) (S 10) (S 11), k_Catalog g aC oC lefts tops cwidths cheights originals orients] → lv_has ls 4 [(0, .ref (a o)), (2, .int x1)] → k76_1 x1 = some u → W p l e (g_rm 1 21) s m args below meth c H locs 0 0 Q (F0 m 76 ls []) := by
    intro x1 H locs ls hw hl h
    subst ek76_1
    dsimp only at h
    refine lv_iload_n hx hb dX3_usedColumns_76 rfl (lv_at hl 1 rfl) ?_
    refine lv_aload_n hx hb dX3_usedColumns_77 rfl (lv_at hl 0 rfl) ?_
    refine b_get hx hb hT hK hown fl_X3_29 hw 0 0 rfl rfl (v := .ref (aS oS)) rfl dX3_usedColumns_78 ?_
    refine b_get hx hb hT hK hown fl_X3_71 hw 1 0 rfl rfl (v := .ref (aS (oS+6))) rfl dX3_usedColumns_81 ?_
    refine b_get hx hb hT hK hown fl_X3_159 hw 3 0 rfl rfl (v := .int (S 5 4)) rfl dX3_usedColumns_84 ?_
    refine lv_iadd hx hb dX3_usedColumns_87 ?_
    obtain rfl := Option.some.inj h
    exact b_iret hQ hx hb hr hlk hw rfl dX3_usedColumns_88
  have hL13 : ∀ (n : Nat) (x3 : Int32) (x4 : Int32) (H : Heap) (locs : List Loc) (ls : Array Slot), b_Wd D A s.heap H locs [k_PkO g a o (aS oS) (aC oC), k_StO g aS oS, k_Sheet g aS (oS+1) (S 0 0) (S 1) (S 2) (S 3) (S 4), k_Settings g aS (oS+6) (S 5 0) (S 5 1) (S 5 2) (S 5 3) (S 5 4) (S 5 5) (S 5 6) (S 5 7) (S 5 8) (S 5 9) (S 5 10) (S 5 11), k_Places g aS (oS+7) (S 6 0) (S 7) (S 8) (S 9) (S 10) (S 11), k_Catalog g aC oC lefts tops cwidths cheights originals orients] → lv_has ls 4 [(0, .ref (a o)), (1, .int i1), (2, .int x3), (3, .int x4)] → f_X3_usedColumns_L13 S cwidths cheights i1 k76_1 n x3 x4 = some u → W p l e (g_rm 1 21) s m args below meth c H locs 0 0 Q (F0 m 13 ls []) := by
    intro n
    induction n with
    | zero =>
      intro x3 x4 H locs ls hw hl h
      cases (show none = some u from h)
    | succ n ih13 =>
      intro x3 x4 H locs ls hw hl h
      rw [f_X3_usedColumns_L13] at h
      refine lv_iload_n hx hb dX3_usedColumns_13 rfl (lv_at hl 3 rfl) ?_
      refine lv_aload_n hx hb dX3_usedColumns_14 rfl (lv_at hl 0 rfl) ?_
      refine b_get hx hb hT hK hown fl_X3_29 hw 0 0 rfl rfl (v := .ref (aS oS)) rfl dX3_usedColumns_15 ?_
      refine b_get hx hb hT hK hown fl_X3_92 hw 1 0 rfl rfl (v := .ref (aS (oS+1))) rfl dX3_usedColumns_18 ?_
      refine b_get hx hb hT hK hown fl_X3_142 hw 2 0 rfl rfl (v := .int (S 0 0)) rfl dX3_usedColumns_21 ?_
      refine lv_icmp_ge (tgt := 76) hx hb dX3_usedColumns_24 (by decide) (fun hc24 => ?_) (fun hc24 => ?_)
      · rw [if_pos hc24] at h
        exact hk76_1 x3 _ _ _ hw (lv_sub hl [0, 2] rfl) h
      · rw [if_neg hc24] at h
        refine lv_aload_n hx hb dX3_usedColumns_27 rfl (lv_at hl 0 rfl) ?_
        refine b_get hx hb hT hK hown fl_X3_29 hw 0 0 rfl rfl (v := .ref (aS oS)) rfl dX3_usedColumns_28 ?_
        refine b_get hx hb hT hK hown fl_X3_37 hw 1 0 rfl rfl (v := .ref (aS (oS+7))) rfl dX3_usedColumns_31 ?_
        refine b_get hx hb hT hK hown fl_X3_107 hw 4 0 rfl rfl (v := .ref (aS (oS+9))) rfl dX3_usedColumns_34 ?_
        refine lv_iload_n hx hb dX3_usedColumns_37 rfl (lv_at hl 3 rfl) ?_
        obtain ⟨x5, ex5, hix5, h⟩ := g_rd_some h
        refine b_iald hx hb hK hw 4 2 rfl (f := (S 8)) rfl hix5 ex5 dX3_usedColumns_38 ?_
        refine lv_iload_n hx hb dX3_usedColumns_39 rfl (lv_at hl 1 rfl) ?_
        obtain ⟨j70_6, ej70_6, h⟩ := g_jn_nm h
        have hj70_6 : ∀ (x6 : Int32) (H : Heap) (locs : List Loc) (ls : Array Slot), b_Wd D A s.heap H locs [k_PkO g a o (aS oS) (aC oC), k_StO g aS oS, k_Sheet g aS (oS+1) (S 0 0) (S 1) (S 2) (S 3) (S 4), k_Settings g aS (oS+6) (S 5 0) (S 5 1) (S 5 2) (S 5 3) (S 5 4) (S 5 5) (S 5 6) (S 5 7) (S 5 8) (S 5 9) (S 5 10) (S 5 11), k_Places g aS (oS+7) (S 6 0) (S 7) (S 8) (S 9) (S 10) (S 11), k_Catalog g aC oC lefts tops cwidths cheights originals orients] → lv_has ls 4 [(0, .ref (a o)), (1, .int i1), (2, .int x6), (3, .int x4)] → j70_6 x6 = some u → W p l e (g_rm 1 21) s m args below meth c H locs 0 0 Q (F0 m 70 ls []) := by
          intro x6 H locs ls hw hl h
          subst ej70_6
          dsimp only at h
          obtain ⟨x8, ex8, h⟩ := g_bd_nm h
          refine lv_iinc (v := x8) (lv' := [(3, .int x8), (0, .ref (a o)), (1, .int i1), (2, .int x6)]) hx hb dX3_usedColumns_70 hl (k := 3) rfl (by rw [ex8]; rfl) (by decide) rfl (fun ls hl => ?_)
          refine lv_goto (tgt := 13) hx hb dX3_usedColumns_73 (by decide) ?_
          exact ih13 x6 x8 _ _ _ hw (lv_sub hl [1, 2, 3, 0] rfl) h
        refine lv_icmp_ne (tgt := 70) hx hb dX3_usedColumns_40 (by decide) (fun hc40 => ?_) (fun hc40 => ?_)
        · rw [if_neg hc40] at h
          exact hj70_6 x3 _ _ _ hw (lv_sub hl [0, 1, 2, 3] rfl) h
        · rw [if_pos hc40] at h
          refine lv_iload_n hx hb dX3_usedColumns_43 rfl (lv_at hl 2 rfl) ?_
          refine lv_aload_n hx hb dX3_usedColumns_44 rfl (lv_at hl 0 rfl) ?_
          refine lv_iload_n hx hb dX3_usedColumns_45 rfl (lv_at hl 3 rfl) ?_
          obtain ⟨r9, er9, h⟩ := g_cl_some h
          refine b_callV hx hb hml hown hT hK hA hw mk_X3_165 (c_X3_imageColumn l D g a o aS oS aC oC S x4 r9 er9) [0, 1, 3, 4] [2, 5] rfl (by decide) 0 0 rfl rfl rfl rfl hl.1 [.int x3] rfl (Nat.le_of_ble_eq_true rfl) ⟨Nat.le_of_ble_eq_true rfl, Nat.le_of_ble_eq_true rfl⟩ ⟨Nat.zero_le _, Nat.zero_le _⟩ dX3_usedColumns_46 (wb' := [k_PkO g a o (aS oS) (aC oC), k_StO g aS oS, k_Sheet g aS (oS+1) (S 0 0) (S 1) (S 2) (S 3) (S 4), k_Settings g aS (oS+6) (S 5 0) (S 5 1) (S 5 2) (S 5 3) (S 5 4) (S 5 5) (S 5 6) (S 5 7) (S 5 8) (S 5 9) (S 5 10) (S 5 11), k_Places g aS (oS+7) (S 6 0) (S 7) (S 8) (S 9) (S 10) (S 11), k_Catalog g aC oC lefts tops cwidths cheights originals orients]) rfl (b_e1 rfl (b_e1 rfl b_e0)) 6 rfl (by decide) (st2 := [.int r9, .int x3]) rfl (fun H locs hw => ?_)
          refine lv_aload_n hx hb dX3_usedColumns_49 rfl (lv_at hl 0 rfl) ?_
          refine lv_iload_n hx hb dX3_usedColumns_50 rfl (lv_at hl 3 rfl) ?_
          obtain ⟨r10, er10, h⟩ := g_cl_some h
          refine b_callV hx hb hml hown hT hK hA hw mk_X3_172 (c_X3_imageWidth l D g a o aS oS aC oC S lefts tops cwidths cheights originals orients x4 r10 er10) [0, 1, 4, 5] [2, 3] rfl (by decide) 0 0 rfl rfl rfl rfl hl.1 [.int r9, .int x3] rfl (Nat.le_of_ble_eq_true rfl) ⟨Nat.le_of_ble_eq_true rfl, Nat.le_of_ble_eq_true rfl⟩ ⟨Nat.zero_le _, Nat.zero_le _⟩ dX3_usedColumns_51 (wb' := [k_PkO g a o (aS oS) (aC oC), k_StO g aS oS, k_Sheet g aS (oS+1) (S 0 0) (S 1) (S 2) (S 3) (S 4), k_Settings g aS (oS+6) (S 5 0) (S 5 1) (S 5 2) (S 5 3) (S 5 4) (S 5 5) (S 5 6) (S 5 7) (S 5 8) (S 5 9) (S 5 10) (S 5 11), k_Places g aS (oS+7) (S 6 0) (S 7) (S 8) (S 9) (S 10) (S 11), k_Catalog g aC oC lefts tops cwidths cheights originals orients]) rfl (b_e1 rfl (b_e1 rfl b_e0)) 6 rfl (by decide) (st2 := [.int r10, .int r9, .int x3]) rfl (fun H locs hw => ?_)
          refine lv_iadd hx hb dX3_usedColumns_54 ?_
          refine lv_aload_n hx hb dX3_usedColumns_55 rfl (lv_at hl 0 rfl) ?_
          refine b_get hx hb hT hK hown fl_X3_29 hw 0 0 rfl rfl (v := .ref (aS oS)) rfl dX3_usedColumns_56 ?_
          refine b_get hx hb hT hK hown fl_X3_71 hw 1 0 rfl rfl (v := .ref (aS (oS+6))) rfl dX3_usedColumns_59 ?_
          refine b_get hx hb hT hK hown fl_X3_162 hw 3 0 rfl rfl (v := .int (S 5 5)) rfl dX3_usedColumns_62 ?_
          refine lv_iadd hx hb dX3_usedColumns_65 ?_
          refine g_mmax hx hb hml hl.1 hown hT mm_X3_101 (Nat.le_of_ble_eq_true rfl) (Nat.le_of_ble_eq_true rfl) (Nat.zero_le _) (Nat.zero_le _) dX3_usedColumns_66 ?_
          obtain ⟨x11, ex11, h⟩ := g_bd_nm h
          refine g_topi ex11 ?_
          refine lv_istore_n (lv' := [(2, .int x11), (0, .ref (a o)), (1, .int i1), (3, .int x4)]) hx hb dX3_usedColumns_69 rfl hl (by decide) rfl (fun ls hl => ?_)
          exact hj70_6 x11 _ _ _ hw (lv_sub hl [1, 2, 0, 3] rfl) h
  exact hL13 g_fuel (S 5 4) (0 : Int32) _ _ _ hw (lv_sub hl [2, 3, 1, 0] rfl) h
set_option maxRecDepth 100000 in
set_option maxHeartbeats 4000000 in
theorem c_X3_usedRows (l : Launch) (D : va_G) (g : Nat → ClassId) (a : Nat → Nat) (o : Nat) (aS : Nat → Nat) (oS : Nat) (aC : Nat → Nat) (oC : Nat) (S : Nat → Nat → Int32) (lefts : (Nat → Int32)) (tops : (Nat → Int32)) (cwidths : (Nat → Int32)) (cheights : (Nat → Int32)) (originals : (Nat → Int32)) (orients : (Nat → Int32)) (i1 : Int32) (u : Int32) (h : f_X3_usedRows S cwidths cheights i1 = some u) : b_Ct l yX3_usedRows cX3_usedRows 4 (some .int) 1 21 D g [.ref (a o), .int i1] [k_PkO g a o (aS oS) (aC oC), k_StO g aS oS, k_Sheet g aS (oS+1) (S 0 0) (S 1) (S 2) (S 3) (S 4), k_Settings g aS (oS+6) (S 5 0) (S 5 1) (S 5 2) (S 5 3) (S 5 4) (S 5 5) (S 5 6) (S 5 7) (S 5 8) (S 5 9) (S 5 10) (S 5 11), k_Places g aS (oS+7) (S 6 0) (S 7) (S 8) (S 9) (S 10) (S 11), k_Catalog g aC oC lefts tops cwidths cheights originals orients] [k_PkO g a o (aS oS) (aC oC), k_StO g aS oS, k_Sheet g aS (oS+1) (S 0 0) (S 1) (S 2) (S 3) (S 4), k_Settings g aS (oS+6) (S 5 0) (S 5 1) (S 5 2) (S 5 3) (S 5 4) (S 5 5) (S 5 6) (S 5 7) (S 5 8) (S 5 9) (S 5 10) (S 5 11), k_Places g aS (oS+7) (S 6 0) (S 7) (S 8) (S 9) (S 10) (S 11), k_Catalog g aC oC lefts tops cwidths cheights originals orients] (some (.int u)) := by
  refine b_start RX3 (by decide) rfl (Nat.le_of_ble_eq_true rfl) rfl ?_
  intro p e s m args below meth c A ls Q hQ hx hb hr hlk hml hown hT hK hA hw hl
  have hl : lv_has ls 4 [(0, .ref (a o)), (1, .int i1)] := hl
  unfold f_X3_usedRows at h
  refine lv_aload_n hx hb dX3_usedRows_0 rfl (lv_at hl 0 rfl) ?_
  refine b_get hx hb hT hK hown fl_X3_29 hw 0 0 rfl rfl (v := .ref (aS oS)) rfl dX3_usedRows_1 ?_
  refine b_get hx hb hT hK hown fl_X3_71 hw 1 0 rfl rfl (v := .ref (aS (oS+6))) rfl dX3_usedRows_4 ?_
  refine b_get hx hb hT hK hown fl_X3_159 hw 3 0 rfl rfl (v := .int (S 5 4)) rfl dX3_usedRows_7 ?_
  refine lv_istore_n (lv' := [(2, .int (S 5 4)), (0, .ref (a o)), (1, .int i1)]) hx hb dX3_usedRows_10 rfl hl (by decide) rfl (fun ls hl => ?_)
  refine lv_iconst (v := 0) hx hb dX3_usedRows_11 (by decide) ?_
  refine lv_istore_n (lv' := [(3, .int (0 : Int32)), (2, .int (S 5 4)), (0, .ref (a o)), (1, .int i1)]) hx hb dX3_usedRows_12 rfl hl (by decide) rfl (fun ls hl => ?_)
  obtain ⟨k76_1, ek76_1, h⟩ := g_jn_nm h
  have hk76_1 : ∀ (x1 : Int32) (H : Heap) (locs : List Loc) (ls : Array Slot), b_Wd D A s.heap H locs [k_PkO g a o (aS oS) (aC oC), k_StO g aS oS, k_Sheet g aS (oS+1) (S 0 0) (S 1) (S 2) (S 3) (S 4), k_Settings g aS (oS+6) (S 5 0) (S 5 1) (S 5 2) (S 5 3) (S 5 4) (S 5 5) (S 5 6) (S 5 7) (S 5 8) (S 5 9) (S 5 10) (S 5 11), k_Places g aS (oS+7) (S 6 0) (S 7) (S 8) (S 9) (S 10) (S 11), k_Catalog g aC oC lefts tops cwidths cheights originals orients] → lv_has ls 4 [(0, .ref (a o)), (2, .int x1)] → k76_1 x1 = some u → W p l e (g_rm 1 21) s m args below meth c H locs 0 0 Q (F0 m 76 ls []) := by
    intro x1 H locs ls hw hl h
    subst ek76_1
    dsimp only at h
    refine lv_iload_n hx hb dX3_usedRows_76 rfl (lv_at hl 1 rfl) ?_
    refine lv_aload_n hx hb dX3_usedRows_77 rfl (lv_at hl 0 rfl) ?_
    refine b_get hx hb hT hK hown fl_X3_29 hw 0 0 rfl rfl (v := .ref (aS oS)) rfl dX3_usedRows_78 ?_
    refine b_get hx hb hT hK hown fl_X3_71 hw 1 0 rfl rfl (v := .ref (aS (oS+6))) rfl dX3_usedRows_81 ?_
    refine b_get hx hb hT hK hown fl_X3_159 hw 3 0 rfl rfl (v := .int (S 5 4)) rfl dX3_usedRows_84 ?_
    refine lv_iadd hx hb dX3_usedRows_87 ?_
    obtain rfl := Option.some.inj h
    exact b_iret hQ hx hb hr hlk hw rfl dX3_usedRows_88
  have hL13 : ∀ (n : Nat) (x3 : Int32) (x4 : Int32) (H : Heap) (locs : List Loc) (ls : Array Slot), b_Wd D A s.heap H locs [k_PkO g a o (aS oS) (aC oC), k_StO g aS oS, k_Sheet g aS (oS+1) (S 0 0) (S 1) (S 2) (S 3) (S 4), k_Settings g aS (oS+6) (S 5 0) (S 5 1) (S 5 2) (S 5 3) (S 5 4) (S 5 5) (S 5 6) (S 5 7) (S 5 8) (S 5 9) (S 5 10) (S 5 11), k_Places g aS (oS+7) (S 6 0) (S 7) (S 8) (S 9) (S 10) (S 11), k_Catalog g aC oC lefts tops cwidths cheights originals orients] → lv_has ls 4 [(0, .ref (a o)), (1, .int i1), (2, .int x3), (3, .int x4)] → f_X3_usedRows_L13 S cwidths cheights i1 k76_1 n x3 x4 = some u → W p l e (g_rm 1 21) s m args below meth c H locs 0 0 Q (F0 m 13 ls []) := by
    intro n
    induction n with
    | zero =>
      intro x3 x4 H locs ls hw hl h
      cases (show none = some u from h)
    | succ n ih13 =>
      intro x3 x4 H locs ls hw hl h
      rw [f_X3_usedRows_L13] at h
      refine lv_iload_n hx hb dX3_usedRows_13 rfl (lv_at hl 3 rfl) ?_
      refine lv_aload_n hx hb dX3_usedRows_14 rfl (lv_at hl 0 rfl) ?_
      refine b_get hx hb hT hK hown fl_X3_29 hw 0 0 rfl rfl (v := .ref (aS oS)) rfl dX3_usedRows_15 ?_
      refine b_get hx hb hT hK hown fl_X3_92 hw 1 0 rfl rfl (v := .ref (aS (oS+1))) rfl dX3_usedRows_18 ?_
      refine b_get hx hb hT hK hown fl_X3_142 hw 2 0 rfl rfl (v := .int (S 0 0)) rfl dX3_usedRows_21 ?_
      refine lv_icmp_ge (tgt := 76) hx hb dX3_usedRows_24 (by decide) (fun hc24 => ?_) (fun hc24 => ?_)
      · rw [if_pos hc24] at h
        exact hk76_1 x3 _ _ _ hw (lv_sub hl [0, 2] rfl) h
      · rw [if_neg hc24] at h
        refine lv_aload_n hx hb dX3_usedRows_27 rfl (lv_at hl 0 rfl) ?_
        refine b_get hx hb hT hK hown fl_X3_29 hw 0 0 rfl rfl (v := .ref (aS oS)) rfl dX3_usedRows_28 ?_
        refine b_get hx hb hT hK hown fl_X3_37 hw 1 0 rfl rfl (v := .ref (aS (oS+7))) rfl dX3_usedRows_31 ?_
        refine b_get hx hb hT hK hown fl_X3_107 hw 4 0 rfl rfl (v := .ref (aS (oS+9))) rfl dX3_usedRows_34 ?_
        refine lv_iload_n hx hb dX3_usedRows_37 rfl (lv_at hl 3 rfl) ?_
        obtain ⟨x5, ex5, hix5, h⟩ := g_rd_some h
        refine b_iald hx hb hK hw 4 2 rfl (f := (S 8)) rfl hix5 ex5 dX3_usedRows_38 ?_
        refine lv_iload_n hx hb dX3_usedRows_39 rfl (lv_at hl 1 rfl) ?_
        obtain ⟨j70_6, ej70_6, h⟩ := g_jn_nm h
        have hj70_6 : ∀ (x6 : Int32) (H : Heap) (locs : List Loc) (ls : Array Slot), b_Wd D A s.heap H locs [k_PkO g a o (aS oS) (aC oC), k_StO g aS oS, k_Sheet g aS (oS+1) (S 0 0) (S 1) (S 2) (S 3) (S 4), k_Settings g aS (oS+6) (S 5 0) (S 5 1) (S 5 2) (S 5 3) (S 5 4) (S 5 5) (S 5 6) (S 5 7) (S 5 8) (S 5 9) (S 5 10) (S 5 11), k_Places g aS (oS+7) (S 6 0) (S 7) (S 8) (S 9) (S 10) (S 11), k_Catalog g aC oC lefts tops cwidths cheights originals orients] → lv_has ls 4 [(0, .ref (a o)), (1, .int i1), (2, .int x6), (3, .int x4)] → j70_6 x6 = some u → W p l e (g_rm 1 21) s m args below meth c H locs 0 0 Q (F0 m 70 ls []) := by
          intro x6 H locs ls hw hl h
          subst ej70_6
          dsimp only at h
          obtain ⟨x8, ex8, h⟩ := g_bd_nm h
          refine lv_iinc (v := x8) (lv' := [(3, .int x8), (0, .ref (a o)), (1, .int i1), (2, .int x6)]) hx hb dX3_usedRows_70 hl (k := 3) rfl (by rw [ex8]; rfl) (by decide) rfl (fun ls hl => ?_)
          refine lv_goto (tgt := 13) hx hb dX3_usedRows_73 (by decide) ?_
          exact ih13 x6 x8 _ _ _ hw (lv_sub hl [1, 2, 3, 0] rfl) h
        refine lv_icmp_ne (tgt := 70) hx hb dX3_usedRows_40 (by decide) (fun hc40 => ?_) (fun hc40 => ?_)
        · rw [if_neg hc40] at h
          exact hj70_6 x3 _ _ _ hw (lv_sub hl [0, 1, 2, 3] rfl) h
        · rw [if_pos hc40] at h
          refine lv_iload_n hx hb dX3_usedRows_43 rfl (lv_at hl 2 rfl) ?_
          refine lv_aload_n hx hb dX3_usedRows_44 rfl (lv_at hl 0 rfl) ?_
          refine lv_iload_n hx hb dX3_usedRows_45 rfl (lv_at hl 3 rfl) ?_
          obtain ⟨r9, er9, h⟩ := g_cl_some h
          refine b_callV hx hb hml hown hT hK hA hw mk_X3_169 (c_X3_imageRow l D g a o aS oS aC oC S x4 r9 er9) [0, 1, 3, 4] [2, 5] rfl (by decide) 0 0 rfl rfl rfl rfl hl.1 [.int x3] rfl (Nat.le_of_ble_eq_true rfl) ⟨Nat.le_of_ble_eq_true rfl, Nat.le_of_ble_eq_true rfl⟩ ⟨Nat.zero_le _, Nat.zero_le _⟩ dX3_usedRows_46 (wb' := [k_PkO g a o (aS oS) (aC oC), k_StO g aS oS, k_Sheet g aS (oS+1) (S 0 0) (S 1) (S 2) (S 3) (S 4), k_Settings g aS (oS+6) (S 5 0) (S 5 1) (S 5 2) (S 5 3) (S 5 4) (S 5 5) (S 5 6) (S 5 7) (S 5 8) (S 5 9) (S 5 10) (S 5 11), k_Places g aS (oS+7) (S 6 0) (S 7) (S 8) (S 9) (S 10) (S 11), k_Catalog g aC oC lefts tops cwidths cheights originals orients]) rfl (b_e1 rfl (b_e1 rfl b_e0)) 6 rfl (by decide) (st2 := [.int r9, .int x3]) rfl (fun H locs hw => ?_)
          refine lv_aload_n hx hb dX3_usedRows_49 rfl (lv_at hl 0 rfl) ?_
          refine lv_iload_n hx hb dX3_usedRows_50 rfl (lv_at hl 3 rfl) ?_
          obtain ⟨r10, er10, h⟩ := g_cl_some h
          refine b_callV hx hb hml hown hT hK hA hw mk_X3_175 (c_X3_imageHeight l D g a o aS oS aC oC S lefts tops cwidths cheights originals orients x4 r10 er10) [0, 1, 4, 5] [2, 3] rfl (by decide) 0 0 rfl rfl rfl rfl hl.1 [.int r9, .int x3] rfl (Nat.le_of_ble_eq_true rfl) ⟨Nat.le_of_ble_eq_true rfl, Nat.le_of_ble_eq_true rfl⟩ ⟨Nat.zero_le _, Nat.zero_le _⟩ dX3_usedRows_51 (wb' := [k_PkO g a o (aS oS) (aC oC), k_StO g aS oS, k_Sheet g aS (oS+1) (S 0 0) (S 1) (S 2) (S 3) (S 4), k_Settings g aS (oS+6) (S 5 0) (S 5 1) (S 5 2) (S 5 3) (S 5 4) (S 5 5) (S 5 6) (S 5 7) (S 5 8) (S 5 9) (S 5 10) (S 5 11), k_Places g aS (oS+7) (S 6 0) (S 7) (S 8) (S 9) (S 10) (S 11), k_Catalog g aC oC lefts tops cwidths cheights originals orients]) rfl (b_e1 rfl (b_e1 rfl b_e0)) 6 rfl (by decide) (st2 := [.int r10, .int r9, .int x3]) rfl (fun H locs hw => ?_)
          refine lv_iadd hx hb dX3_usedRows_54 ?_
          refine lv_aload_n hx hb dX3_usedRows_55 rfl (lv_at hl 0 rfl) ?_
          refine b_get hx hb hT hK hown fl_X3_29 hw 0 0 rfl rfl (v := .ref (aS oS)) rfl dX3_usedRows_56 ?_
          refine b_get hx hb hT hK hown fl_X3_71 hw 1 0 rfl rfl (v := .ref (aS (oS+6))) rfl dX3_usedRows_59 ?_
          refine b_get hx hb hT hK hown fl_X3_162 hw 3 0 rfl rfl (v := .int (S 5 5)) rfl dX3_usedRows_62 ?_
          refine lv_iadd hx hb dX3_usedRows_65 ?_
          refine g_mmax hx hb hml hl.1 hown hT mm_X3_101 (Nat.le_of_ble_eq_true rfl) (Nat.le_of_ble_eq_true rfl) (Nat.zero_le _) (Nat.zero_le _) dX3_usedRows_66 ?_
          obtain ⟨x11, ex11, h⟩ := g_bd_nm h
          refine g_topi ex11 ?_
          refine lv_istore_n (lv' := [(2, .int x11), (0, .ref (a o)), (1, .int i1), (3, .int x4)]) hx hb dX3_usedRows_69 rfl hl (by decide) rfl (fun ls hl => ?_)
          exact hj70_6 x11 _ _ _ hw (lv_sub hl [1, 2, 0, 3] rfl) h
  exact hL13 g_fuel (S 5 4) (0 : Int32) _ _ _ hw (lv_sub hl [2, 3, 1, 0] rfl) h
set_option maxRecDepth 100000 in
set_option maxHeartbeats 4000000 in
theorem c_X3_imagePixels (l : Launch) (D : va_G) (g : Nat → ClassId) (a : Nat → Nat) (o : Nat) (aS : Nat → Nat) (oS : Nat) (aC : Nat → Nat) (oC : Nat) (S : Nat → Nat → Int32) (lefts : (Nat → Int32)) (tops : (Nat → Int32)) (cwidths : (Nat → Int32)) (cheights : (Nat → Int32)) (originals : (Nat → Int32)) (orients : (Nat → Int32)) (i1 : Int32) (u : Int32) (h : f_X3_imagePixels S cwidths cheights i1 = some u) : b_Ct l yX3_imagePixels cX3_imagePixels 4 (some .int) 0 0 D g [.ref (a o), .int i1] [k_PkO g a o (aS oS) (aC oC), k_StO g aS oS, k_Sheet g aS (oS+1) (S 0 0) (S 1) (S 2) (S 3) (S 4), k_Places g aS (oS+7) (S 6 0) (S 7) (S 8) (S 9) (S 10) (S 11), k_Catalog g aC oC lefts tops cwidths cheights originals orients] [k_PkO g a o (aS oS) (aC oC), k_StO g aS oS, k_Sheet g aS (oS+1) (S 0 0) (S 1) (S 2) (S 3) (S 4), k_Places g aS (oS+7) (S 6 0) (S 7) (S 8) (S 9) (S 10) (S 11), k_Catalog g aC oC lefts tops cwidths cheights originals orients] (some (.int u)) := by
  refine b_start RX3 (by decide) rfl (Nat.le_of_ble_eq_true rfl) rfl ?_
  intro p e s m args below meth c A ls Q hQ hx hb hr hlk hml hown hT hK hA hw hl
  have hl : lv_has ls 4 [(0, .ref (a o)), (1, .int i1)] := hl
  unfold f_X3_imagePixels at h
  refine lv_iconst (v := 0) hx hb dX3_imagePixels_0 (by decide) ?_
  refine lv_istore_n (lv' := [(2, .int (0 : Int32)), (0, .ref (a o)), (1, .int i1)]) hx hb dX3_imagePixels_1 rfl hl (by decide) rfl (fun ls hl => ?_)
  refine lv_iconst (v := 0) hx hb dX3_imagePixels_2 (by decide) ?_
  refine lv_istore_n (lv' := [(3, .int (0 : Int32)), (2, .int (0 : Int32)), (0, .ref (a o)), (1, .int i1)]) hx hb dX3_imagePixels_3 rfl hl (by decide) rfl (fun ls hl => ?_)
  have hL4 : ∀ (n : Nat) (x1 : Int32) (x2 : Int32) (H : Heap) (locs : List Loc) (ls : Array Slot), b_Wd D A s.heap H locs [k_PkO g a o (aS oS) (aC oC), k_StO g aS oS, k_Sheet g aS (oS+1) (S 0 0) (S 1) (S 2) (S 3) (S 4), k_Places g aS (oS+7) (S 6 0) (S 7) (S 8) (S 9) (S 10) (S 11), k_Catalog g aC oC lefts tops cwidths cheights originals orients] → lv_has ls 4 [(0, .ref (a o)), (1, .int i1), (2, .int x1), (3, .int x2)] → f_X3_imagePixels_L4 S cwidths cheights i1 n x1 x2 = some u → W p l e (g_rm 0 0) s m args below meth c H locs 0 0 Q (F0 m 4 ls []) := by
    intro n
    induction n with
    | zero =>
      intro x1 x2 H locs ls hw hl h
      cases (show none = some u from h)
    | succ n ih4 =>
      intro x1 x2 H locs ls hw hl h
      rw [f_X3_imagePixels_L4] at h
      refine lv_iload_n hx hb dX3_imagePixels_4 rfl (lv_at hl 3 rfl) ?_
      refine lv_aload_n hx hb dX3_imagePixels_5 rfl (lv_at hl 0 rfl) ?_
      refine b_get hx hb hT hK hown fl_X3_29 hw 0 0 rfl rfl (v := .ref (aS oS)) rfl dX3_imagePixels_6 ?_
      refine b_get hx hb hT hK hown fl_X3_92 hw 1 0 rfl rfl (v := .ref (aS (oS+1))) rfl dX3_imagePixels_9 ?_
      refine b_get hx hb hT hK hown fl_X3_142 hw 2 0 rfl rfl (v := .int (S 0 0)) rfl dX3_imagePixels_12 ?_
      refine lv_icmp_ge (tgt := 62) hx hb dX3_imagePixels_15 (by decide) (fun hc15 => ?_) (fun hc15 => ?_)
      · rw [if_pos hc15] at h
        refine lv_iload_n hx hb dX3_imagePixels_62 rfl (lv_at hl 2 rfl) ?_
        obtain rfl := Option.some.inj h
        exact b_iret hQ hx hb hr hlk hw rfl dX3_imagePixels_63
      · rw [if_neg hc15] at h
        refine lv_aload_n hx hb dX3_imagePixels_18 rfl (lv_at hl 0 rfl) ?_
        refine b_get hx hb hT hK hown fl_X3_29 hw 0 0 rfl rfl (v := .ref (aS oS)) rfl dX3_imagePixels_19 ?_
        refine b_get hx hb hT hK hown fl_X3_37 hw 1 0 rfl rfl (v := .ref (aS (oS+7))) rfl dX3_imagePixels_22 ?_
        refine b_get hx hb hT hK hown fl_X3_107 hw 3 0 rfl rfl (v := .ref (aS (oS+9))) rfl dX3_imagePixels_25 ?_
        refine lv_iload_n hx hb dX3_imagePixels_28 rfl (lv_at hl 3 rfl) ?_
        obtain ⟨x3, ex3, hix3, h⟩ := g_rd_some h
        refine b_iald hx hb hK hw 3 2 rfl (f := (S 8)) rfl hix3 ex3 dX3_imagePixels_29 ?_
        refine lv_iload_n hx hb dX3_imagePixels_30 rfl (lv_at hl 1 rfl) ?_
        obtain ⟨j56_4, ej56_4, h⟩ := g_jn_nm h
        have hj56_4 : ∀ (x4 : Int32) (H : Heap) (locs : List Loc) (ls : Array Slot), b_Wd D A s.heap H locs [k_PkO g a o (aS oS) (aC oC), k_StO g aS oS, k_Sheet g aS (oS+1) (S 0 0) (S 1) (S 2) (S 3) (S 4), k_Places g aS (oS+7) (S 6 0) (S 7) (S 8) (S 9) (S 10) (S 11), k_Catalog g aC oC lefts tops cwidths cheights originals orients] → lv_has ls 4 [(0, .ref (a o)), (1, .int i1), (2, .int x4), (3, .int x2)] → j56_4 x4 = some u → W p l e (g_rm 0 0) s m args below meth c H locs 0 0 Q (F0 m 56 ls []) := by
          intro x4 H locs ls hw hl h
          subst ej56_4
          dsimp only at h
          obtain ⟨x6, ex6, h⟩ := g_bd_nm h
          refine lv_iinc (v := x6) (lv' := [(3, .int x6), (0, .ref (a o)), (1, .int i1), (2, .int x4)]) hx hb dX3_imagePixels_56 hl (k := 3) rfl (by rw [ex6]; rfl) (by decide) rfl (fun ls hl => ?_)
          refine lv_goto (tgt := 4) hx hb dX3_imagePixels_59 (by decide) ?_
          exact ih4 x4 x6 _ _ _ hw (lv_sub hl [1, 2, 3, 0] rfl) h
        refine lv_icmp_ne (tgt := 56) hx hb dX3_imagePixels_31 (by decide) (fun hc31 => ?_) (fun hc31 => ?_)
        · rw [if_neg hc31] at h
          exact hj56_4 x1 _ _ _ hw (lv_sub hl [0, 1, 2, 3] rfl) h
        · rw [if_pos hc31] at h
          refine lv_iload_n hx hb dX3_imagePixels_34 rfl (lv_at hl 2 rfl) ?_
          refine lv_aload_n hx hb dX3_imagePixels_35 rfl (lv_at hl 0 rfl) ?_
          refine b_get hx hb hT hK hown fl_X3_33 hw 0 0 rfl rfl (v := .ref (aC oC)) rfl dX3_imagePixels_36 ?_
          refine b_get hx hb hT hK hown fl_X3_191 hw 4 0 rfl rfl (v := .ref (aC (oC+3))) rfl dX3_imagePixels_39 ?_
          refine lv_iload_n hx hb dX3_imagePixels_42 rfl (lv_at hl 3 rfl) ?_
          obtain ⟨x7, ex7, hix7, h⟩ := g_rd_some h
          refine b_iald hx hb hK hw 4 3 rfl (f := cwidths) rfl hix7 ex7 dX3_imagePixels_43 ?_
          refine lv_aload_n hx hb dX3_imagePixels_44 rfl (lv_at hl 0 rfl) ?_
          refine b_get hx hb hT hK hown fl_X3_33 hw 0 0 rfl rfl (v := .ref (aC oC)) rfl dX3_imagePixels_45 ?_
          refine b_get hx hb hT hK hown fl_X3_194 hw 4 0 rfl rfl (v := .ref (aC (oC+4))) rfl dX3_imagePixels_48 ?_
          refine lv_iload_n hx hb dX3_imagePixels_51 rfl (lv_at hl 3 rfl) ?_
          obtain ⟨x8, ex8, hix8, h⟩ := g_rd_some h
          refine b_iald hx hb hK hw 4 4 rfl (f := cheights) rfl hix8 ex8 dX3_imagePixels_52 ?_
          refine lv_imul hx hb dX3_imagePixels_53 ?_
          refine lv_iadd hx hb dX3_imagePixels_54 ?_
          obtain ⟨x9, ex9, h⟩ := g_bd_nm h
          refine g_topi ex9 ?_
          refine lv_istore_n (lv' := [(2, .int x9), (0, .ref (a o)), (1, .int i1), (3, .int x2)]) hx hb dX3_imagePixels_55 rfl hl (by decide) rfl (fun ls hl => ?_)
          exact hj56_4 x9 _ _ _ hw (lv_sub hl [1, 2, 0, 3] rfl) h
  exact hL4 g_fuel (0 : Int32) (0 : Int32) _ _ _ hw (lv_sub hl [2, 3, 1, 0] rfl) h
set_option maxRecDepth 100000 in
set_option maxHeartbeats 4000000 in
theorem c_X3_boxPositions (l : Launch) (D : va_G) (g : Nat → ClassId) (a : Nat → Nat) (o : Nat) (aS : Nat → Nat) (oS : Nat) (aC : Nat → Nat) (oC : Nat) (S : Nat → Nat → Int32) (lefts : (Nat → Int32)) (tops : (Nat → Int32)) (cwidths : (Nat → Int32)) (cheights : (Nat → Int32)) (originals : (Nat → Int32)) (orients : (Nat → Int32)) (u : Int32) (h : f_X3_boxPositions S cwidths cheights originals = some u) : b_Ct l yX3_boxPositions cX3_boxPositions 3 (some .int) 2 42 D g [.ref (a o)] [k_PkO g a o (aS oS) (aC oC), k_StO g aS oS, k_Sheet g aS (oS+1) (S 0 0) (S 1) (S 2) (S 3) (S 4), k_Settings g aS (oS+6) (S 5 0) (S 5 1) (S 5 2) (S 5 3) (S 5 4) (S 5 5) (S 5 6) (S 5 7) (S 5 8) (S 5 9) (S 5 10) (S 5 11), k_Catalog g aC oC lefts tops cwidths cheights originals orients] [k_PkO g a o (aS oS) (aC oC), k_StO g aS oS, k_Sheet g aS (oS+1) (S 0 0) (S 1) (S 2) (S 3) (S 4), k_Settings g aS (oS+6) (S 5 0) (S 5 1) (S 5 2) (S 5 3) (S 5 4) (S 5 5) (S 5 6) (S 5 7) (S 5 8) (S 5 9) (S 5 10) (S 5 11), k_Catalog g aC oC lefts tops cwidths cheights originals orients] (some (.int u)) := by
  refine b_start RX3 (by decide) rfl (Nat.le_of_ble_eq_true rfl) rfl ?_
  intro p e s m args below meth c A ls Q hQ hx hb hr hlk hml hown hT hK hA hw hl
  have hl : lv_has ls 3 [(0, .ref (a o))] := hl
  unfold f_X3_boxPositions at h
  refine lv_iconst (v := 0) hx hb dX3_boxPositions_0 (by decide) ?_
  refine lv_istore_n (lv' := [(1, .int (0 : Int32)), (0, .ref (a o))]) hx hb dX3_boxPositions_1 rfl hl (by decide) rfl (fun ls hl => ?_)
  refine lv_iconst (v := 0) hx hb dX3_boxPositions_2 (by decide) ?_
  refine lv_istore_n (lv' := [(2, .int (0 : Int32)), (1, .int (0 : Int32)), (0, .ref (a o))]) hx hb dX3_boxPositions_3 rfl hl (by decide) rfl (fun ls hl => ?_)
  have hL4 : ∀ (n : Nat) (x1 : Int32) (x2 : Int32) (H : Heap) (locs : List Loc) (ls : Array Slot), b_Wd D A s.heap H locs [k_PkO g a o (aS oS) (aC oC), k_StO g aS oS, k_Sheet g aS (oS+1) (S 0 0) (S 1) (S 2) (S 3) (S 4), k_Settings g aS (oS+6) (S 5 0) (S 5 1) (S 5 2) (S 5 3) (S 5 4) (S 5 5) (S 5 6) (S 5 7) (S 5 8) (S 5 9) (S 5 10) (S 5 11), k_Catalog g aC oC lefts tops cwidths cheights originals orients] → lv_has ls 3 [(0, .ref (a o)), (1, .int x1), (2, .int x2)] → f_X3_boxPositions_L4 S cwidths cheights originals n x1 x2 = some u → W p l e (g_rm 2 42) s m args below meth c H locs 0 0 Q (F0 m 4 ls []) := by
    intro n
    induction n with
    | zero =>
      intro x1 x2 H locs ls hw hl h
      cases (show none = some u from h)
    | succ n ih4 =>
      intro x1 x2 H locs ls hw hl h
      rw [f_X3_boxPositions_L4] at h
      refine lv_iload_n hx hb dX3_boxPositions_4 rfl (lv_at hl 2 rfl) ?_
      refine lv_aload_n hx hb dX3_boxPositions_5 rfl (lv_at hl 0 rfl) ?_
      refine b_get hx hb hT hK hown fl_X3_29 hw 0 0 rfl rfl (v := .ref (aS oS)) rfl dX3_boxPositions_6 ?_
      refine b_get hx hb hT hK hown fl_X3_92 hw 1 0 rfl rfl (v := .ref (aS (oS+1))) rfl dX3_boxPositions_9 ?_
      refine b_get hx hb hT hK hown fl_X3_142 hw 2 0 rfl rfl (v := .int (S 0 0)) rfl dX3_boxPositions_12 ?_
      refine lv_icmp_ge (tgt := 51) hx hb dX3_boxPositions_15 (by decide) (fun hc15 => ?_) (fun hc15 => ?_)
      · rw [if_pos hc15] at h
        refine lv_iload_n hx hb dX3_boxPositions_51 rfl (lv_at hl 1 rfl) ?_
        obtain rfl := Option.some.inj h
        exact b_iret hQ hx hb hr hlk hw rfl dX3_boxPositions_52
      · rw [if_neg hc15] at h
        refine lv_aload_n hx hb dX3_boxPositions_18 rfl (lv_at hl 0 rfl) ?_
        refine b_get hx hb hT hK hown fl_X3_33 hw 0 0 rfl rfl (v := .ref (aC oC)) rfl dX3_boxPositions_19 ?_
        refine lv_iload_n hx hb dX3_boxPositions_22 rfl (lv_at hl 2 rfl) ?_
        obtain ⟨r3, er3, h⟩ := g_cl_some h
        refine b_callV hx hb hml hown hT hK hA hw mk_X3_197 (c_X0_isOriginal l D g aC oC lefts tops cwidths cheights originals orients x2 r3 er3) [4] [0, 1, 2, 3] rfl (by decide) 4 0 rfl rfl rfl rfl hl.1 [] rfl (Nat.le_of_ble_eq_true rfl) ⟨Nat.le_of_ble_eq_true rfl, Nat.le_of_ble_eq_true rfl⟩ ⟨Nat.zero_le _, Nat.zero_le _⟩ dX3_boxPositions_23 (wb' := [k_PkO g a o (aS oS) (aC oC), k_StO g aS oS, k_Sheet g aS (oS+1) (S 0 0) (S 1) (S 2) (S 3) (S 4), k_Settings g aS (oS+6) (S 5 0) (S 5 1) (S 5 2) (S 5 3) (S 5 4) (S 5 5) (S 5 6) (S 5 7) (S 5 8) (S 5 9) (S 5 10) (S 5 11), k_Catalog g aC oC lefts tops cwidths cheights originals orients]) rfl (b_e1 rfl (b_e1 rfl (b_e1 rfl (b_e1 rfl b_e0)))) 5 rfl (by decide) (st2 := [.int r3]) rfl (fun H locs hw => ?_)
        obtain ⟨j45_4, ej45_4, h⟩ := g_jn_nm h
        have hj45_4 : ∀ (x4 : Int32) (H : Heap) (locs : List Loc) (ls : Array Slot), b_Wd D A s.heap H locs [k_PkO g a o (aS oS) (aC oC), k_StO g aS oS, k_Sheet g aS (oS+1) (S 0 0) (S 1) (S 2) (S 3) (S 4), k_Settings g aS (oS+6) (S 5 0) (S 5 1) (S 5 2) (S 5 3) (S 5 4) (S 5 5) (S 5 6) (S 5 7) (S 5 8) (S 5 9) (S 5 10) (S 5 11), k_Catalog g aC oC lefts tops cwidths cheights originals orients] → lv_has ls 3 [(0, .ref (a o)), (1, .int x4), (2, .int x2)] → j45_4 x4 = some u → W p l e (g_rm 2 42) s m args below meth c H locs 0 0 Q (F0 m 45 ls []) := by
          intro x4 H locs ls hw hl h
          subst ej45_4
          dsimp only at h
          obtain ⟨x6, ex6, h⟩ := g_bd_nm h
          refine lv_iinc (v := x6) (lv' := [(2, .int x6), (0, .ref (a o)), (1, .int x4)]) hx hb dX3_boxPositions_45 hl (k := 2) rfl (by rw [ex6]; rfl) (by decide) rfl (fun ls hl => ?_)
          refine lv_goto (tgt := 4) hx hb dX3_boxPositions_48 (by decide) ?_
          exact ih4 x4 x6 _ _ _ hw (lv_sub hl [1, 2, 0] rfl) h
        refine lv_if_eq (tgt := 45) hx hb dX3_boxPositions_26 (by decide) (fun hc26 => ?_) (fun hc26 => ?_)
        · rw [if_pos hc26] at h
          exact hj45_4 x1 _ _ _ hw (lv_sub hl [0, 1, 2] rfl) h
        · rw [if_neg hc26] at h
          refine lv_iload_n hx hb dX3_boxPositions_29 rfl (lv_at hl 1 rfl) ?_
          refine lv_aload_n hx hb dX3_boxPositions_30 rfl (lv_at hl 0 rfl) ?_
          refine lv_iload_n hx hb dX3_boxPositions_31 rfl (lv_at hl 2 rfl) ?_
          refine lv_iconst (v := 0) hx hb dX3_boxPositions_32 (by decide) ?_
          obtain ⟨r7, er7, h⟩ := g_cl_some h
          refine b_callV hx hb hml hown hT hK hA hw mk_X3_145 (c_X3_boxWidth l D g a o aS oS aC oC S lefts tops cwidths cheights originals orients x2 (0 : Int32) r7 er7) [0, 1, 3, 4] [2] rfl (by decide) 0 0 rfl rfl rfl rfl hl.1 [.int x1] rfl (Nat.le_of_ble_eq_true rfl) ⟨Nat.le_of_ble_eq_true rfl, Nat.le_of_ble_eq_true rfl⟩ ⟨Nat.zero_le _, Nat.zero_le _⟩ dX3_boxPositions_33 (wb' := [k_PkO g a o (aS oS) (aC oC), k_StO g aS oS, k_Sheet g aS (oS+1) (S 0 0) (S 1) (S 2) (S 3) (S 4), k_Settings g aS (oS+6) (S 5 0) (S 5 1) (S 5 2) (S 5 3) (S 5 4) (S 5 5) (S 5 6) (S 5 7) (S 5 8) (S 5 9) (S 5 10) (S 5 11), k_Catalog g aC oC lefts tops cwidths cheights originals orients]) rfl (b_e1 rfl b_e0) 5 rfl (by decide) (st2 := [.int r7, .int x1]) rfl (fun H locs hw => ?_)
          refine lv_aload_n hx hb dX3_boxPositions_36 rfl (lv_at hl 0 rfl) ?_
          refine lv_iload_n hx hb dX3_boxPositions_37 rfl (lv_at hl 2 rfl) ?_
          refine lv_iconst (v := 0) hx hb dX3_boxPositions_38 (by decide) ?_
          obtain ⟨r8, er8, h⟩ := g_cl_some h
          refine b_callV hx hb hml hown hT hK hA hw mk_X3_149 (c_X3_boxHeight l D g a o aS oS aC oC S lefts tops cwidths cheights originals orients x2 (0 : Int32) r8 er8) [0, 1, 3, 4] [2] rfl (by decide) 0 0 rfl rfl rfl rfl hl.1 [.int r7, .int x1] rfl (Nat.le_of_ble_eq_true rfl) ⟨Nat.le_of_ble_eq_true rfl, Nat.le_of_ble_eq_true rfl⟩ ⟨Nat.zero_le _, Nat.zero_le _⟩ dX3_boxPositions_39 (wb' := [k_PkO g a o (aS oS) (aC oC), k_StO g aS oS, k_Sheet g aS (oS+1) (S 0 0) (S 1) (S 2) (S 3) (S 4), k_Settings g aS (oS+6) (S 5 0) (S 5 1) (S 5 2) (S 5 3) (S 5 4) (S 5 5) (S 5 6) (S 5 7) (S 5 8) (S 5 9) (S 5 10) (S 5 11), k_Catalog g aC oC lefts tops cwidths cheights originals orients]) rfl (b_e1 rfl b_e0) 5 rfl (by decide) (st2 := [.int r8, .int r7, .int x1]) rfl (fun H locs hw => ?_)
          refine lv_imul hx hb dX3_boxPositions_42 ?_
          refine lv_iadd hx hb dX3_boxPositions_43 ?_
          obtain ⟨x9, ex9, h⟩ := g_bd_nm h
          refine g_topi ex9 ?_
          refine lv_istore_n (lv' := [(1, .int x9), (0, .ref (a o)), (2, .int x2)]) hx hb dX3_boxPositions_44 rfl hl (by decide) rfl (fun ls hl => ?_)
          exact hj45_4 x9 _ _ _ hw (lv_sub hl [1, 0, 2] rfl) h
  exact hL4 g_fuel (0 : Int32) (0 : Int32) _ _ _ hw (lv_sub hl [2, 1, 0] rfl) h
set_option maxRecDepth 100000 in
set_option maxHeartbeats 4000000 in
theorem c_X6_has (l : Launch) (D : va_G) (g : Nat → ClassId) (a : Nat → Nat) (o : Nat) (count : Int32) (widths : (Nat → Int32)) (heights : (Nat → Int32)) (groups : (Nat → Int32)) (rows : (Nat → Int32)) (i1 : Int32) : b_Ct l yX6_has cX6_has 2 (some .boolean) 0 0 D g [.ref (a o), .int i1] [k_Sheet g a o count widths heights groups rows] [k_Sheet g a o count widths heights groups rows] (some (.int (f_X6_has count i1))) := by
  refine b_start RX6 (by decide) rfl (Nat.le_of_ble_eq_true rfl) rfl ?_
  intro p e s m args below meth c A ls Q hQ hx hb hr hlk hml hown hT hK hA hw hl
  have hl : lv_has ls 2 [(0, .ref (a o)), (1, .int i1)] := hl
  generalize h : f_X6_has count i1 = u at hQ
  unfold f_X6_has at h
  refine lv_iload_n hx hb dX6_has_0 rfl (lv_at hl 1 rfl) ?_
  refine lv_if_lt (tgt := 16) hx hb dX6_has_1 (by decide) (fun hc1 => ?_) (fun hc1 => ?_)
  · rw [if_pos hc1] at h
    refine lv_iconst (v := 0) hx hb dX6_has_16 (by decide) ?_
    obtain rfl := h
    exact b_zret hQ hx hb hr hlk (Or.inl rfl) hw rfl dX6_has_17
  · rw [if_neg hc1] at h
    refine lv_iload_n hx hb dX6_has_4 rfl (lv_at hl 1 rfl) ?_
    refine lv_aload_n hx hb dX6_has_5 rfl (lv_at hl 0 rfl) ?_
    refine b_get hx hb hT hK hown fl_X6_24 hw 0 0 rfl rfl (v := .int count) rfl dX6_has_6 ?_
    refine lv_icmp_ge (tgt := 16) hx hb dX6_has_9 (by decide) (fun hc9 => ?_) (fun hc9 => ?_)
    · rw [if_pos hc9] at h
      refine lv_iconst (v := 0) hx hb dX6_has_16 (by decide) ?_
      obtain rfl := h
      exact b_zret hQ hx hb hr hlk (Or.inl rfl) hw rfl dX6_has_17
    · rw [if_neg hc9] at h
      refine lv_iconst (v := 1) hx hb dX6_has_12 (by decide) ?_
      refine lv_goto (tgt := 17) hx hb dX6_has_13 (by decide) ?_
      obtain rfl := h
      exact b_zret hQ hx hb hr hlk (Or.inr rfl) hw rfl dX6_has_17
set_option maxRecDepth 100000 in
set_option maxHeartbeats 4000000 in
theorem c_X6_hasPixel (l : Launch) (D : va_G) (g : Nat → ClassId) (a : Nat → Nat) (o : Nat) (count : Int32) (widths : (Nat → Int32)) (heights : (Nat → Int32)) (groups : (Nat → Int32)) (rows : (Nat → Int32)) (i1 : Int32) (i2 : Int32) (i3 : Int32) (u : Int32) (h : f_X6_hasPixel count widths heights i1 i2 i3 = some u) : b_Ct l yX6_hasPixel cX6_hasPixel 4 (some .boolean) 1 21 D g [.ref (a o), .int i1, .int i2, .int i3] [k_Sheet g a o count widths heights groups rows] [k_Sheet g a o count widths heights groups rows] (some (.int u)) := by
  refine b_start RX6 (by decide) rfl (Nat.le_of_ble_eq_true rfl) rfl ?_
  intro p e s m args below meth c A ls Q hQ hx hb hr hlk hml hown hT hK hA hw hl
  have hl : lv_has ls 4 [(0, .ref (a o)), (1, .int i1), (2, .int i2), (3, .int i3)] := hl
  unfold f_X6_hasPixel at h
  refine lv_aload_n hx hb dX6_hasPixel_0 rfl (lv_at hl 0 rfl) ?_
  refine lv_iload_n hx hb dX6_hasPixel_1 rfl (lv_at hl 1 rfl) ?_
  refine b_callV hx hb hml hown hT hK hA hw mk_X6_28 (c_X6_has l D g a o count widths heights groups rows i1) [0] [] rfl (by decide) 0 0 rfl rfl rfl rfl hl.1 [] rfl (Nat.le_of_ble_eq_true rfl) ⟨Nat.le_of_ble_eq_true rfl, Nat.le_of_ble_eq_true rfl⟩ ⟨Nat.zero_le _, Nat.zero_le _⟩ dX6_hasPixel_2 (wb' := [k_Sheet g a o count widths heights groups rows]) rfl b_e0 1 rfl (by decide) (st2 := [.int (f_X6_has count i1)]) rfl (fun H locs hw => ?_)
  refine lv_if_eq (tgt := 40) hx hb dX6_hasPixel_5 (by decide) (fun hc5 => ?_) (fun hc5 => ?_)
  · rw [if_pos hc5] at h
    refine lv_iconst (v := 0) hx hb dX6_hasPixel_40 (by decide) ?_
    obtain rfl := Option.some.inj h
    exact b_zret hQ hx hb hr hlk (Or.inl rfl) hw rfl dX6_hasPixel_41
  · rw [if_neg hc5] at h
    refine lv_iload_n hx hb dX6_hasPixel_8 rfl (lv_at hl 2 rfl) ?_
    refine lv_if_lt (tgt := 40) hx hb dX6_hasPixel_9 (by decide) (fun hc9 => ?_) (fun hc9 => ?_)
    · rw [if_pos hc9] at h
      refine lv_iconst (v := 0) hx hb dX6_hasPixel_40 (by decide) ?_
      obtain rfl := Option.some.inj h
      exact b_zret hQ hx hb hr hlk (Or.inl rfl) hw rfl dX6_hasPixel_41
    · rw [if_neg hc9] at h
      refine lv_iload_n hx hb dX6_hasPixel_12 rfl (lv_at hl 2 rfl) ?_
      refine lv_aload_n hx hb dX6_hasPixel_13 rfl (lv_at hl 0 rfl) ?_
      refine b_get hx hb hT hK hown fl_X6_9 hw 0 0 rfl rfl (v := .ref (a (o+1))) rfl dX6_hasPixel_14 ?_
      refine lv_iload_n hx hb dX6_hasPixel_17 rfl (lv_at hl 1 rfl) ?_
      obtain ⟨x1, ex1, hix1, h⟩ := g_rd_some h
      refine b_iald hx hb hK hw 0 1 rfl (f := widths) rfl hix1 ex1 dX6_hasPixel_18 ?_
      refine lv_icmp_ge (tgt := 40) hx hb dX6_hasPixel_19 (by decide) (fun hc19 => ?_) (fun hc19 => ?_)
      · rw [if_pos hc19] at h
        refine lv_iconst (v := 0) hx hb dX6_hasPixel_40 (by decide) ?_
        obtain rfl := Option.some.inj h
        exact b_zret hQ hx hb hr hlk (Or.inl rfl) hw rfl dX6_hasPixel_41
      · rw [if_neg hc19] at h
        refine lv_iload_n hx hb dX6_hasPixel_22 rfl (lv_at hl 3 rfl) ?_
        refine lv_if_lt (tgt := 40) hx hb dX6_hasPixel_23 (by decide) (fun hc23 => ?_) (fun hc23 => ?_)
        · rw [if_pos hc23] at h
          refine lv_iconst (v := 0) hx hb dX6_hasPixel_40 (by decide) ?_
          obtain rfl := Option.some.inj h
          exact b_zret hQ hx hb hr hlk (Or.inl rfl) hw rfl dX6_hasPixel_41
        · rw [if_neg hc23] at h
          refine lv_iload_n hx hb dX6_hasPixel_26 rfl (lv_at hl 3 rfl) ?_
          refine lv_aload_n hx hb dX6_hasPixel_27 rfl (lv_at hl 0 rfl) ?_
          refine b_get hx hb hT hK hown fl_X6_15 hw 0 0 rfl rfl (v := .ref (a (o+2))) rfl dX6_hasPixel_28 ?_
          refine lv_iload_n hx hb dX6_hasPixel_31 rfl (lv_at hl 1 rfl) ?_
          obtain ⟨x2, ex2, hix2, h⟩ := g_rd_some h
          refine b_iald hx hb hK hw 0 2 rfl (f := heights) rfl hix2 ex2 dX6_hasPixel_32 ?_
          refine lv_icmp_ge (tgt := 40) hx hb dX6_hasPixel_33 (by decide) (fun hc33 => ?_) (fun hc33 => ?_)
          · rw [if_pos hc33] at h
            refine lv_iconst (v := 0) hx hb dX6_hasPixel_40 (by decide) ?_
            obtain rfl := Option.some.inj h
            exact b_zret hQ hx hb hr hlk (Or.inl rfl) hw rfl dX6_hasPixel_41
          · rw [if_neg hc33] at h
            refine lv_iconst (v := 1) hx hb dX6_hasPixel_36 (by decide) ?_
            refine lv_goto (tgt := 41) hx hb dX6_hasPixel_37 (by decide) ?_
            obtain rfl := Option.some.inj h
            exact b_zret hQ hx hb hr hlk (Or.inr rfl) hw rfl dX6_hasPixel_41
set_option maxRecDepth 100000 in
set_option maxHeartbeats 4000000 in
theorem c_X6_setColor (l : Launch) (D : va_G) (g : Nat → ClassId) (a : Nat → Nat) (o : Nat) (count : Int32) (widths : (Nat → Int32)) (heights : (Nat → Int32)) (groups : (Nat → Int32)) (rows : (Nat → Int32)) (i1 : Int32) (i2 : Int32) (i3 : Int32) (i4 : Int32) (u : (Nat → Int32)) (h : f_X6_setColor count widths heights rows i1 i2 i3 i4 = some u) : b_Ct l yX6_setColor cX6_setColor 6 none 2 44 D g [.ref (a o), .int i1, .int i2, .int i3, .int i4] [k_Sheet g a o count widths heights groups rows] [k_Sheet g a o count widths heights groups u] none := by
  refine b_start RX6 (by decide) rfl (Nat.le_of_ble_eq_true rfl) rfl ?_
  intro p e s m args below meth c A ls Q hQ hx hb hr hlk hml hown hT hK hA hw hl
  have hl : lv_has ls 6 [(0, .ref (a o)), (1, .int i1), (2, .int i2), (3, .int i3), (4, .int i4)] := hl
  unfold f_X6_setColor at h
  refine lv_aload_n hx hb dX6_setColor_0 rfl (lv_at hl 0 rfl) ?_
  refine lv_iload_n hx hb dX6_setColor_1 rfl (lv_at hl 1 rfl) ?_
  refine lv_iload_n hx hb dX6_setColor_2 rfl (lv_at hl 2 rfl) ?_
  refine lv_iload_n hx hb dX6_setColor_3 rfl (lv_at hl 3 rfl) ?_
  obtain ⟨r1, er1, h⟩ := g_cl_some h
  refine b_callV hx hb hml hown hT hK hA hw mk_X6_32 (c_X6_hasPixel l D g a o count widths heights groups rows i1 i2 i3 r1 er1) [0] [] rfl (by decide) 0 0 rfl rfl rfl rfl hl.1 [] rfl (Nat.le_of_ble_eq_true rfl) ⟨Nat.le_of_ble_eq_true rfl, Nat.le_of_ble_eq_true rfl⟩ ⟨Nat.zero_le _, Nat.zero_le _⟩ dX6_setColor_4 (wb' := [k_Sheet g a o count widths heights groups rows]) rfl b_e0 1 rfl (by decide) (st2 := [.int r1]) rfl (fun H locs hw => ?_)
  refine lv_if_eq (tgt := 48) hx hb dX6_setColor_7 (by decide) (fun hc7 => ?_) (fun hc7 => ?_)
  · rw [if_pos hc7] at h
    obtain rfl := Option.some.inj h
    exact b_vret hQ hx hb hr hlk hw rfl dX6_setColor_48
  · rw [if_neg hc7] at h
    refine lv_iload_n hx hb dX6_setColor_10 rfl (lv_at hl 1 rfl) ?_
    refine lv_bipush (v := 8) hx hb dX6_setColor_11 (by decide) ?_
    refine lv_imul hx hb dX6_setColor_13 ?_
    refine lv_iload_n hx hb dX6_setColor_14 rfl (lv_at hl 3 rfl) ?_
    refine lv_iadd hx hb dX6_setColor_15 ?_
    obtain ⟨x2, ex2, h⟩ := g_bd_nm h
    refine g_topi ex2 ?_
    refine lv_istore (lv' := [(5, .int x2), (0, .ref (a o)), (1, .int i1), (2, .int i2), (3, .int i3), (4, .int i4)]) hx hb dX6_setColor_16 hl (by decide) rfl (fun ls hl => ?_)
    refine lv_aload_n hx hb dX6_setColor_18 rfl (lv_at hl 1 rfl) ?_
    refine b_get hx hb hT hK hown fl_X6_21 hw 0 0 rfl rfl (v := .ref (a (o+4))) rfl dX6_setColor_19 ?_
    refine lv_iload hx hb dX6_setColor_22 (lv_at hl 0 rfl) ?_
    refine lv_aload_n hx hb dX6_setColor_24 rfl (lv_at hl 1 rfl) ?_
    refine b_get hx hb hT hK hown fl_X6_21 hw 0 0 rfl rfl (v := .ref (a (o+4))) rfl dX6_setColor_25 ?_
    refine lv_iload hx hb dX6_setColor_28 (lv_at hl 0 rfl) ?_
    obtain ⟨x3, ex3, hix3, h⟩ := g_rd_some h
    refine b_iald hx hb hK hw 0 4 rfl (f := rows) rfl hix3 ex3 dX6_setColor_30 ?_
    refine lv_bipush (v := 15) hx hb dX6_setColor_31 (by decide) ?_
    refine lv_iconst (v := 4) hx hb dX6_setColor_33 (by decide) ?_
    refine lv_iload_n hx hb dX6_setColor_34 rfl (lv_at hl 3 rfl) ?_
    refine lv_imul hx hb dX6_setColor_35 ?_
    refine g_ishl hx hb dX6_setColor_36 ?_
    refine lv_iconst (v := -1) hx hb dX6_setColor_37 (by decide) ?_
    refine lv_ixor hx hb dX6_setColor_38 ?_
    refine lv_iand hx hb dX6_setColor_39 ?_
    refine lv_iload hx hb dX6_setColor_40 (lv_at hl 5 rfl) ?_
    refine lv_iconst (v := 4) hx hb dX6_setColor_42 (by decide) ?_
    refine lv_iload_n hx hb dX6_setColor_43 rfl (lv_at hl 3 rfl) ?_
    refine lv_imul hx hb dX6_setColor_44 ?_
    refine g_ishl hx hb dX6_setColor_45 ?_
    refine lv_ior hx hb dX6_setColor_46 ?_
    obtain ⟨x4, ex4, h⟩ := g_bd_nm h
    refine g_topi ex4 ?_
    obtain ⟨f5, ef5, hif5, h⟩ := g_wr_some h
    refine b_iast hx hb hK hw 0 4 rfl (f := rows) rfl hif5 ef5 rfl (wb' := [k_Sheet g a o count widths heights groups f5]) rfl dX6_setColor_47 (fun H locs hw => ?_)
    obtain rfl := Option.some.inj h
    exact b_vret hQ hx hb hr hlk hw rfl dX6_setColor_48
