set_option maxRecDepth 100000 in
set_option maxHeartbeats 4000000 in
theorem c_X3_putAsChosen (l : Launch) (D : va_G) (g : Nat → ClassId) (a : Nat → Nat) (o : Nat) (aS : Nat → Nat) (oS : Nat) (aC : Nat → Nat) (oC : Nat) (spW : Int32) (spH : Int32) (fr : (Nat → Int64)) (codes : (Nat → Int32)) (counts : (Nat → Int32)) (chFound : Int32) (chPage : Int32) (chCol : Int32) (chRow : Int32) (chTurned : Int32) (chFirst : Int32) (chSecond : Int32) (S : Nat → Nat → Int32) (lefts : (Nat → Int32)) (tops : (Nat → Int32)) (cwidths : (Nat → Int32)) (cheights : (Nat → Int32)) (originals : (Nat → Int32)) (orients : (Nat → Int32)) (i1 : Int32) (u : Int32 × Int32 × (Nat → Int64) × (Nat → Int32) × (Nat → Int32) × (Nat → Nat → Int32)) (h : f_X3_putAsChosen fr codes counts chPage chCol chRow chTurned S cwidths cheights i1 = some u) : b_Ct l yX3_putAsChosen cX3_putAsChosen 4 none 4 113 D g [.ref (a o), .int i1] [k_PkO g a o (aS oS) (aC oC), k_Space g a (o+1) spW spH fr codes counts, k_Choice g a (o+5) chFound chPage chCol chRow chTurned chFirst chSecond, k_StO g aS oS, k_Sheet g aS (oS+1) (S 0 0) (S 1) (S 2) (S 3) (S 4), k_Settings g aS (oS+6) (S 5 0) (S 5 1) (S 5 2) (S 5 3) (S 5 4) (S 5 5) (S 5 6) (S 5 7) (S 5 8) (S 5 9) (S 5 10) (S 5 11), k_Places g aS (oS+7) (S 6 0) (S 7) (S 8) (S 9) (S 10) (S 11), k_Catalog g aC oC lefts tops cwidths cheights originals orients] [k_PkO g a o (aS oS) (aC oC), k_Space g a (o+1) u.1 u.2.1 u.2.2.1 u.2.2.2.1 u.2.2.2.2.1, k_Choice g a (o+5) chFound chPage chCol chRow chTurned chFirst chSecond, k_StO g aS oS, k_Sheet g aS (oS+1) (S 0 0) (S 1) (S 2) (S 3) (S 4), k_Settings g aS (oS+6) (S 5 0) (S 5 1) (S 5 2) (S 5 3) (S 5 4) (S 5 5) (S 5 6) (S 5 7) (S 5 8) (S 5 9) (S 5 10) (S 5 11), k_Places g aS (oS+7) (u.2.2.2.2.2 6 0) (u.2.2.2.2.2 7) (u.2.2.2.2.2 8) (u.2.2.2.2.2 9) (u.2.2.2.2.2 10) (u.2.2.2.2.2 11), k_Catalog g aC oC lefts tops cwidths cheights originals orients] none := by
  refine b_start RX3 (by decide) rfl (Nat.le_of_ble_eq_true rfl) rfl ?_
  intro p e s m args below meth c A ls Q hQ hx hb hr hlk hml hown hT hK hA hw hl
  have hl : lv_has ls 4 [(0, .ref (a o)), (1, .int i1)] := hl
  unfold f_X3_putAsChosen at h
  refine lv_aload_n hx hb dX3_putAsChosen_0 rfl (lv_at hl 0 rfl) ?_
  refine b_get hx hb hT hK hown fl_X3_29 hw 0 0 rfl rfl (v := .ref (aS oS)) rfl dX3_putAsChosen_1 ?_
  refine b_get hx hb hT hK hown fl_X3_37 hw 3 0 rfl rfl (v := .ref (aS (oS+7))) rfl dX3_putAsChosen_4 ?_
  refine lv_astore_n (lv' := [(2, .ref (aS (oS+7))), (0, .ref (a o)), (1, .int i1)]) hx hb dX3_putAsChosen_7 rfl hl (by decide) rfl (fun ls hl => ?_)
  refine lv_aload_n hx hb dX3_putAsChosen_8 rfl (lv_at hl 1 rfl) ?_
  refine b_get hx hb hT hK hown fl_X3_21 hw 0 0 rfl rfl (v := .ref (a (o+5))) rfl dX3_putAsChosen_9 ?_
  refine b_get hx hb hT hK hown fl_X3_83 hw 2 0 rfl rfl (v := .int chPage) rfl dX3_putAsChosen_12 ?_
  refine lv_istore_n (lv' := [(3, .int chPage), (2, .ref (aS (oS+7))), (0, .ref (a o)), (1, .int i1)]) hx hb dX3_putAsChosen_15 rfl hl (by decide) rfl (fun ls hl => ?_)
  refine lv_aload_n hx hb dX3_putAsChosen_16 rfl (lv_at hl 1 rfl) ?_
  refine lv_iload_n hx hb dX3_putAsChosen_17 rfl (lv_at hl 0 rfl) ?_
  obtain ⟨r1, er1, h⟩ := g_cl_some h
  refine b_callV hx hb hml hown hT hK hA hw mk_X3_86 (c_X4_isEmptyPage l D g aS (oS+7) (S 6 0) (S 7) (S 8) (S 9) (S 10) (S 11) chPage r1 er1) [6] [0, 1, 2, 3, 4, 5, 7] rfl (by decide) 6 0 rfl rfl rfl rfl hl.1 [] rfl (Nat.le_of_ble_eq_true rfl) ⟨Nat.le_of_ble_eq_true rfl, Nat.le_of_ble_eq_true rfl⟩ ⟨Nat.zero_le _, Nat.zero_le _⟩ dX3_putAsChosen_18 (wb' := [k_PkO g a o (aS oS) (aC oC), k_Space g a (o+1) spW spH fr codes counts, k_Choice g a (o+5) chFound chPage chCol chRow chTurned chFirst chSecond, k_StO g aS oS, k_Sheet g aS (oS+1) (S 0 0) (S 1) (S 2) (S 3) (S 4), k_Settings g aS (oS+6) (S 5 0) (S 5 1) (S 5 2) (S 5 3) (S 5 4) (S 5 5) (S 5 6) (S 5 7) (S 5 8) (S 5 9) (S 5 10) (S 5 11), k_Places g aS (oS+7) (S 6 0) (S 7) (S 8) (S 9) (S 10) (S 11), k_Catalog g aC oC lefts tops cwidths cheights originals orients]) rfl (b_e1 rfl (b_e1 rfl (b_e1 rfl (b_e1 rfl (b_e1 rfl (b_e1 rfl (b_e1 rfl b_e0))))))) 8 rfl (by decide) (st2 := [.int r1]) rfl (fun H locs hw => ?_)
  obtain ⟨j42_2, ej42_2, h⟩ := g_jn_nm h
  have hj42_2 : ∀ (S2 : Nat → Nat → Int32) (H : Heap) (locs : List Loc) (ls : Array Slot), b_Wd D A s.heap H locs [k_PkO g a o (aS oS) (aC oC), k_Space g a (o+1) spW spH fr codes counts, k_Choice g a (o+5) chFound chPage chCol chRow chTurned chFirst chSecond, k_StO g aS oS, k_Sheet g aS (oS+1) (S 0 0) (S 1) (S 2) (S 3) (S 4), k_Settings g aS (oS+6) (S 5 0) (S 5 1) (S 5 2) (S 5 3) (S 5 4) (S 5 5) (S 5 6) (S 5 7) (S 5 8) (S 5 9) (S 5 10) (S 5 11), k_Places g aS (oS+7) (S 6 0) (S2 7) (S 8) (S 9) (S 10) (S 11), k_Catalog g aC oC lefts tops cwidths cheights originals orients] → lv_has ls 4 [(0, .ref (a o)), (1, .int i1), (2, .ref (aS (oS+7))), (3, .int chPage)] → j42_2 S2 = some u → W p l e (g_rm 4 113) s m args below meth c H locs 0 0 Q (F0 m 42 ls []) := by
    intro S2 H locs ls hw hl h
    subst ej42_2
    dsimp only at h
    refine lv_aload_n hx hb dX3_putAsChosen_42 rfl (lv_at hl 2 rfl) ?_
    refine lv_aload_n hx hb dX3_putAsChosen_43 rfl (lv_at hl 2 rfl) ?_
    refine b_get hx hb hT hK hown fl_X3_60 hw 6 0 rfl rfl (v := .int (S 6 0)) rfl dX3_putAsChosen_44 ?_
    refine lv_iload_n hx hb dX3_putAsChosen_47 rfl (lv_at hl 3 rfl) ?_
    refine lv_iconst (v := 1) hx hb dX3_putAsChosen_48 (by decide) ?_
    refine lv_iadd hx hb dX3_putAsChosen_49 ?_
    refine g_mmax hx hb hml hl.1 hown hT mm_X3_101 (Nat.le_of_ble_eq_true rfl) (Nat.le_of_ble_eq_true rfl) (Nat.zero_le _) (Nat.zero_le _) dX3_putAsChosen_50 ?_
    obtain ⟨x4, ex4, h⟩ := g_bd_nm h
    refine g_topi ex4 ?_
    refine b_putf hx hb hT hK hown fl_X3_60 ft_X4 hw 6 0 rfl rfl rfl rfl rfl (Nat.le_of_ble_eq_true rfl) rfl (wb' := [k_PkO g a o (aS oS) (aC oC), k_Space g a (o+1) spW spH fr codes counts, k_Choice g a (o+5) chFound chPage chCol chRow chTurned chFirst chSecond, k_StO g aS oS, k_Sheet g aS (oS+1) (S 0 0) (S 1) (S 2) (S 3) (S 4), k_Settings g aS (oS+6) (S 5 0) (S 5 1) (S 5 2) (S 5 3) (S 5 4) (S 5 5) (S 5 6) (S 5 7) (S 5 8) (S 5 9) (S 5 10) (S 5 11), k_Places g aS (oS+7) x4 (S2 7) (S 8) (S 9) (S 10) (S 11), k_Catalog g aC oC lefts tops cwidths cheights originals orients]) rfl dX3_putAsChosen_53 (fun H locs hw => ?_)
    refine lv_aload_n hx hb dX3_putAsChosen_56 rfl (lv_at hl 2 rfl) ?_
    refine b_get hx hb hT hK hown fl_X3_107 hw 6 0 rfl rfl (v := .ref (aS (oS+9))) rfl dX3_putAsChosen_57 ?_
    refine lv_iload_n hx hb dX3_putAsChosen_60 rfl (lv_at hl 1 rfl) ?_
    refine lv_iload_n hx hb dX3_putAsChosen_61 rfl (lv_at hl 3 rfl) ?_
    obtain ⟨f5, ef5, hif5, h⟩ := g_wr_some h
    refine b_iast hx hb hK hw 6 2 rfl (f := (S 8)) rfl hif5 ef5 rfl (wb' := [k_PkO g a o (aS oS) (aC oC), k_Space g a (o+1) spW spH fr codes counts, k_Choice g a (o+5) chFound chPage chCol chRow chTurned chFirst chSecond, k_StO g aS oS, k_Sheet g aS (oS+1) (S 0 0) (S 1) (S 2) (S 3) (S 4), k_Settings g aS (oS+6) (S 5 0) (S 5 1) (S 5 2) (S 5 3) (S 5 4) (S 5 5) (S 5 6) (S 5 7) (S 5 8) (S 5 9) (S 5 10) (S 5 11), k_Places g aS (oS+7) x4 (S2 7) f5 (S 9) (S 10) (S 11), k_Catalog g aC oC lefts tops cwidths cheights originals orients]) rfl dX3_putAsChosen_62 (fun H locs hw => ?_)
    refine lv_aload_n hx hb dX3_putAsChosen_63 rfl (lv_at hl 2 rfl) ?_
    refine b_get hx hb hT hK hown fl_X3_110 hw 6 0 rfl rfl (v := .ref (aS (oS+10))) rfl dX3_putAsChosen_64 ?_
    refine lv_iload_n hx hb dX3_putAsChosen_67 rfl (lv_at hl 1 rfl) ?_
    refine lv_aload_n hx hb dX3_putAsChosen_68 rfl (lv_at hl 0 rfl) ?_
    refine b_get hx hb hT hK hown fl_X3_21 hw 0 0 rfl rfl (v := .ref (a (o+5))) rfl dX3_putAsChosen_69 ?_
    refine b_get hx hb hT hK hown fl_X3_113 hw 2 0 rfl rfl (v := .int chCol) rfl dX3_putAsChosen_72 ?_
    obtain ⟨f6, ef6, hif6, h⟩ := g_wr_some h
    refine b_iast hx hb hK hw 6 3 rfl (f := (S 9)) rfl hif6 ef6 rfl (wb' := [k_PkO g a o (aS oS) (aC oC), k_Space g a (o+1) spW spH fr codes counts, k_Choice g a (o+5) chFound chPage chCol chRow chTurned chFirst chSecond, k_StO g aS oS, k_Sheet g aS (oS+1) (S 0 0) (S 1) (S 2) (S 3) (S 4), k_Settings g aS (oS+6) (S 5 0) (S 5 1) (S 5 2) (S 5 3) (S 5 4) (S 5 5) (S 5 6) (S 5 7) (S 5 8) (S 5 9) (S 5 10) (S 5 11), k_Places g aS (oS+7) x4 (S2 7) f5 f6 (S 10) (S 11), k_Catalog g aC oC lefts tops cwidths cheights originals orients]) rfl dX3_putAsChosen_75 (fun H locs hw => ?_)
    refine lv_aload_n hx hb dX3_putAsChosen_76 rfl (lv_at hl 2 rfl) ?_
    refine b_get hx hb hT hK hown fl_X3_116 hw 6 0 rfl rfl (v := .ref (aS (oS+11))) rfl dX3_putAsChosen_77 ?_
    refine lv_iload_n hx hb dX3_putAsChosen_80 rfl (lv_at hl 1 rfl) ?_
    refine lv_aload_n hx hb dX3_putAsChosen_81 rfl (lv_at hl 0 rfl) ?_
    refine b_get hx hb hT hK hown fl_X3_21 hw 0 0 rfl rfl (v := .ref (a (o+5))) rfl dX3_putAsChosen_82 ?_
    refine b_get hx hb hT hK hown fl_X3_119 hw 2 0 rfl rfl (v := .int chRow) rfl dX3_putAsChosen_85 ?_
    obtain ⟨f7, ef7, hif7, h⟩ := g_wr_some h
    refine b_iast hx hb hK hw 6 4 rfl (f := (S 10)) rfl hif7 ef7 rfl (wb' := [k_PkO g a o (aS oS) (aC oC), k_Space g a (o+1) spW spH fr codes counts, k_Choice g a (o+5) chFound chPage chCol chRow chTurned chFirst chSecond, k_StO g aS oS, k_Sheet g aS (oS+1) (S 0 0) (S 1) (S 2) (S 3) (S 4), k_Settings g aS (oS+6) (S 5 0) (S 5 1) (S 5 2) (S 5 3) (S 5 4) (S 5 5) (S 5 6) (S 5 7) (S 5 8) (S 5 9) (S 5 10) (S 5 11), k_Places g aS (oS+7) x4 (S2 7) f5 f6 f7 (S 11), k_Catalog g aC oC lefts tops cwidths cheights originals orients]) rfl dX3_putAsChosen_88 (fun H locs hw => ?_)
    refine lv_aload_n hx hb dX3_putAsChosen_89 rfl (lv_at hl 2 rfl) ?_
    refine b_get hx hb hT hK hown fl_X3_122 hw 6 0 rfl rfl (v := .ref (aS (oS+12))) rfl dX3_putAsChosen_90 ?_
    refine lv_iload_n hx hb dX3_putAsChosen_93 rfl (lv_at hl 1 rfl) ?_
    refine lv_aload_n hx hb dX3_putAsChosen_94 rfl (lv_at hl 0 rfl) ?_
    refine b_get hx hb hT hK hown fl_X3_21 hw 0 0 rfl rfl (v := .ref (a (o+5))) rfl dX3_putAsChosen_95 ?_
    refine b_get hx hb hT hK hown fl_X3_126 hw 2 0 rfl rfl (v := .int chTurned) rfl dX3_putAsChosen_98 ?_
    obtain ⟨f8, ef8, hif8, h⟩ := g_wrZ_some h
    refine b_zast hx hb hK hw 6 5 rfl (f := (S 11)) rfl hif8 ef8 rfl (wb' := [k_PkO g a o (aS oS) (aC oC), k_Space g a (o+1) spW spH fr codes counts, k_Choice g a (o+5) chFound chPage chCol chRow chTurned chFirst chSecond, k_StO g aS oS, k_Sheet g aS (oS+1) (S 0 0) (S 1) (S 2) (S 3) (S 4), k_Settings g aS (oS+6) (S 5 0) (S 5 1) (S 5 2) (S 5 3) (S 5 4) (S 5 5) (S 5 6) (S 5 7) (S 5 8) (S 5 9) (S 5 10) (S 5 11), k_Places g aS (oS+7) x4 (S2 7) f5 f6 f7 f8, k_Catalog g aC oC lefts tops cwidths cheights originals orients]) rfl dX3_putAsChosen_101 (fun H locs hw => ?_)
    refine lv_aload_n hx hb dX3_putAsChosen_102 rfl (lv_at hl 0 rfl) ?_
    refine lv_iload_n hx hb dX3_putAsChosen_103 rfl (lv_at hl 3 rfl) ?_
    obtain ⟨r9, er9, h⟩ := g_cl_some h
    refine b_callV hx hb hml hown hT hK hA hw mk_X3_129 (c_X3_survey l D g a o aS oS aC oC spW spH fr codes counts (updC (updC (updC (updC (updC (updC S 6 (upd (S 6) 0 x4)) 7 (S2 7)) 8 f5) 9 f6) 10 f7) 11 f8) lefts tops cwidths cheights originals orients chPage r9 er9) [0, 1, 3, 4, 5, 6, 7] [2] rfl (by decide) 0 0 rfl rfl rfl rfl hl.1 [] rfl (Nat.le_of_ble_eq_true rfl) ⟨Nat.le_of_ble_eq_true rfl, Nat.le_of_ble_eq_true rfl⟩ ⟨Nat.zero_le _, Nat.zero_le _⟩ dX3_putAsChosen_104 (wb' := [k_PkO g a o (aS oS) (aC oC), k_Space g a (o+1) r9.1 r9.2.1 r9.2.2.1 r9.2.2.2.1 r9.2.2.2.2, k_Choice g a (o+5) chFound chPage chCol chRow chTurned chFirst chSecond, k_StO g aS oS, k_Sheet g aS (oS+1) (S 0 0) (S 1) (S 2) (S 3) (S 4), k_Settings g aS (oS+6) (S 5 0) (S 5 1) (S 5 2) (S 5 3) (S 5 4) (S 5 5) (S 5 6) (S 5 7) (S 5 8) (S 5 9) (S 5 10) (S 5 11), k_Places g aS (oS+7) x4 (S2 7) f5 f6 f7 f8, k_Catalog g aC oC lefts tops cwidths cheights originals orients]) rfl (b_e1 rfl b_e0) 8 rfl (by decide) (st2 := []) rfl (fun H locs hw => ?_)
    obtain rfl := Option.some.inj h
    exact b_vret hQ hx hb hr hlk hw rfl dX3_putAsChosen_107
  refine lv_if_eq (tgt := 42) hx hb dX3_putAsChosen_21 (by decide) (fun hc21 => ?_) (fun hc21 => ?_)
  · rw [if_pos hc21] at h
    exact hj42_2 S _ _ _ hw (lv_sub hl [2, 3, 1, 0] rfl) h
  · rw [if_neg hc21] at h
    refine lv_aload_n hx hb dX3_putAsChosen_24 rfl (lv_at hl 1 rfl) ?_
    refine b_get hx hb hT hK hown fl_X3_89 hw 6 0 rfl rfl (v := .ref (aS (oS+8))) rfl dX3_putAsChosen_25 ?_
    refine lv_iload_n hx hb dX3_putAsChosen_28 rfl (lv_at hl 0 rfl) ?_
    refine lv_aload_n hx hb dX3_putAsChosen_29 rfl (lv_at hl 2 rfl) ?_
    refine b_get hx hb hT hK hown fl_X3_29 hw 0 0 rfl rfl (v := .ref (aS oS)) rfl dX3_putAsChosen_30 ?_
    refine b_get hx hb hT hK hown fl_X3_92 hw 3 0 rfl rfl (v := .ref (aS (oS+1))) rfl dX3_putAsChosen_33 ?_
    refine b_get hx hb hT hK hown fl_X3_96 hw 4 0 rfl rfl (v := .ref (aS (oS+4))) rfl dX3_putAsChosen_36 ?_
    refine lv_iload_n hx hb dX3_putAsChosen_39 rfl (lv_at hl 3 rfl) ?_
    obtain ⟨x10, ex10, hix10, h⟩ := g_rd_some h
    refine b_iald hx hb hK hw 4 3 rfl (f := (S 3)) rfl hix10 ex10 dX3_putAsChosen_40 ?_
    obtain ⟨f11, ef11, hif11, h⟩ := g_wr_some h
    refine b_iast hx hb hK hw 6 1 rfl (f := (S 7)) rfl hif11 ef11 rfl (wb' := [k_PkO g a o (aS oS) (aC oC), k_Space g a (o+1) spW spH fr codes counts, k_Choice g a (o+5) chFound chPage chCol chRow chTurned chFirst chSecond, k_StO g aS oS, k_Sheet g aS (oS+1) (S 0 0) (S 1) (S 2) (S 3) (S 4), k_Settings g aS (oS+6) (S 5 0) (S 5 1) (S 5 2) (S 5 3) (S 5 4) (S 5 5) (S 5 6) (S 5 7) (S 5 8) (S 5 9) (S 5 10) (S 5 11), k_Places g aS (oS+7) (S 6 0) f11 (S 8) (S 9) (S 10) (S 11), k_Catalog g aC oC lefts tops cwidths cheights originals orients]) rfl dX3_putAsChosen_41 (fun H locs hw => ?_)
    exact hj42_2 (updC S 7 f11) _ _ _ hw (lv_sub hl [2, 3, 1, 0] rfl) h
set_option maxRecDepth 100000 in
set_option maxHeartbeats 4000000 in
theorem c_X3_placeAll (l : Launch) (D : va_G) (g : Nat → ClassId) (a : Nat → Nat) (o : Nat) (aS : Nat → Nat) (oS : Nat) (aC : Nat → Nat) (oC : Nat) (spW : Int32) (spH : Int32) (fr : (Nat → Int64)) (codes : (Nat → Int32)) (counts : (Nat → Int32)) (chFound : Int32) (chPage : Int32) (chCol : Int32) (chRow : Int32) (chTurned : Int32) (chFirst : Int32) (chSecond : Int32) (line : (Nat → Int32)) (S : Nat → Nat → Int32) (lefts : (Nat → Int32)) (tops : (Nat → Int32)) (cwidths : (Nat → Int32)) (cheights : (Nat → Int32)) (originals : (Nat → Int32)) (orients : (Nat → Int32)) (u : Int32 × Int32 × Int32 × (Nat → Int64) × (Nat → Int32) × (Nat → Int32) × Int32 × Int32 × Int32 × Int32 × Int32 × Int32 × Int32 × (Nat → Int32) × (Nat → Nat → Int32)) (h : f_X3_placeAll spW spH fr codes counts chFound chPage chCol chRow chTurned chFirst chSecond line S cwidths cheights originals = some u) : b_Ct l yX3_placeAll cX3_placeAll 4 (some .int) 6 141 D g [.ref (a o)] [k_PkO g a o (aS oS) (aC oC), k_Space g a (o+1) spW spH fr codes counts, k_Choice g a (o+5) chFound chPage chCol chRow chTurned chFirst chSecond, k_Line g a (o+6) line, k_StO g aS oS, k_Sheet g aS (oS+1) (S 0 0) (S 1) (S 2) (S 3) (S 4), k_Settings g aS (oS+6) (S 5 0) (S 5 1) (S 5 2) (S 5 3) (S 5 4) (S 5 5) (S 5 6) (S 5 7) (S 5 8) (S 5 9) (S 5 10) (S 5 11), k_Places g aS (oS+7) (S 6 0) (S 7) (S 8) (S 9) (S 10) (S 11), k_Catalog g aC oC lefts tops cwidths cheights originals orients] [k_PkO g a o (aS oS) (aC oC), k_Space g a (o+1) u.2.1 u.2.2.1 u.2.2.2.1 u.2.2.2.2.1 u.2.2.2.2.2.1, k_Choice g a (o+5) u.2.2.2.2.2.2.1 u.2.2.2.2.2.2.2.1 u.2.2.2.2.2.2.2.2.1 u.2.2.2.2.2.2.2.2.2.1 u.2.2.2.2.2.2.2.2.2.2.1 u.2.2.2.2.2.2.2.2.2.2.2.1 u.2.2.2.2.2.2.2.2.2.2.2.2.1, k_Line g a (o+6) u.2.2.2.2.2.2.2.2.2.2.2.2.2.1, k_StO g aS oS, k_Sheet g aS (oS+1) (S 0 0) (S 1) (S 2) (S 3) (S 4), k_Settings g aS (oS+6) (S 5 0) (S 5 1) (S 5 2) (S 5 3) (S 5 4) (S 5 5) (S 5 6) (S 5 7) (S 5 8) (S 5 9) (S 5 10) (S 5 11), k_Places g aS (oS+7) (u.2.2.2.2.2.2.2.2.2.2.2.2.2.2 6 0) (u.2.2.2.2.2.2.2.2.2.2.2.2.2.2 7) (u.2.2.2.2.2.2.2.2.2.2.2.2.2.2 8) (u.2.2.2.2.2.2.2.2.2.2.2.2.2.2 9) (u.2.2.2.2.2.2.2.2.2.2.2.2.2.2 10) (u.2.2.2.2.2.2.2.2.2.2.2.2.2.2 11), k_Catalog g aC oC lefts tops cwidths cheights originals orients] (some (.int u.1)) := by
  refine b_start RX3 (by decide) rfl (Nat.le_of_ble_eq_true rfl) rfl ?_
  intro p e s m args below meth c A ls Q hQ hx hb hr hlk hml hown hT hK hA hw hl
  have hl : lv_has ls 4 [(0, .ref (a o))] := hl
  unfold f_X3_placeAll at h
  refine lv_aload_n hx hb dX3_placeAll_0 rfl (lv_at hl 0 rfl) ?_
  refine b_get hx hb hT hK hown fl_X3_29 hw 0 0 rfl rfl (v := .ref (aS oS)) rfl dX3_placeAll_1 ?_
  refine b_get hx hb hT hK hown fl_X3_37 hw 4 0 rfl rfl (v := .ref (aS (oS+7))) rfl dX3_placeAll_4 ?_
  obtain ⟨r1, er1, h⟩ := g_cl_some h
  refine b_callV hx hb hml hown hT hK hA hw mk_X3_43 (c_X4_removeAll l D g aS (oS+7) (S 6 0) (S 7) (S 8) (S 9) (S 10) (S 11) r1 er1) [7] [0, 1, 2, 3, 4, 5, 6, 8] rfl (by decide) 7 0 rfl rfl rfl rfl hl.1 [] rfl (Nat.le_of_ble_eq_true rfl) ⟨Nat.le_of_ble_eq_true rfl, Nat.le_of_ble_eq_true rfl⟩ ⟨Nat.zero_le _, Nat.zero_le _⟩ dX3_placeAll_7 (wb' := [k_PkO g a o (aS oS) (aC oC), k_Space g a (o+1) spW spH fr codes counts, k_Choice g a (o+5) chFound chPage chCol chRow chTurned chFirst chSecond, k_Line g a (o+6) line, k_StO g aS oS, k_Sheet g aS (oS+1) (S 0 0) (S 1) (S 2) (S 3) (S 4), k_Settings g aS (oS+6) (S 5 0) (S 5 1) (S 5 2) (S 5 3) (S 5 4) (S 5 5) (S 5 6) (S 5 7) (S 5 8) (S 5 9) (S 5 10) (S 5 11), k_Places g aS (oS+7) r1.1 (S 7) r1.2 (S 9) (S 10) (S 11), k_Catalog g aC oC lefts tops cwidths cheights originals orients]) rfl (b_e1 rfl (b_e1 rfl (b_e1 rfl (b_e1 rfl (b_e1 rfl (b_e1 rfl (b_e1 rfl (b_e1 rfl b_e0)))))))) 9 rfl (by decide) (st2 := []) rfl (fun H locs hw => ?_)
  refine lv_aload_n hx hb dX3_placeAll_10 rfl (lv_at hl 0 rfl) ?_
  obtain ⟨r2, er2, h⟩ := g_cl_some h
  refine b_callV hx hb hml hown hT hK hA hw mk_X3_48 (c_X3_lineUp l D g a o aS oS aC oC line (updC (updC S 6 (upd (S 6) 0 r1.1)) 8 r1.2) lefts tops cwidths cheights originals orients r2 er2) [0, 3, 4, 5, 6, 8] [1, 2, 7] rfl (by decide) 0 0 rfl rfl rfl rfl hl.1 [] rfl (Nat.le_of_ble_eq_true rfl) ⟨Nat.le_of_ble_eq_true rfl, Nat.le_of_ble_eq_true rfl⟩ ⟨Nat.zero_le _, Nat.zero_le _⟩ dX3_placeAll_11 (wb' := [k_PkO g a o (aS oS) (aC oC), k_Space g a (o+1) spW spH fr codes counts, k_Choice g a (o+5) chFound chPage chCol chRow chTurned chFirst chSecond, k_Line g a (o+6) r2.2, k_StO g aS oS, k_Sheet g aS (oS+1) (S 0 0) (S 1) (S 2) (S 3) (S 4), k_Settings g aS (oS+6) (S 5 0) (S 5 1) (S 5 2) (S 5 3) (S 5 4) (S 5 5) (S 5 6) (S 5 7) (S 5 8) (S 5 9) (S 5 10) (S 5 11), k_Places g aS (oS+7) r1.1 (S 7) r1.2 (S 9) (S 10) (S 11), k_Catalog g aC oC lefts tops cwidths cheights originals orients]) rfl (b_e1 rfl (b_e1 rfl (b_e1 rfl b_e0))) 9 rfl (by decide) (st2 := [.int r2.1]) rfl (fun H locs hw => ?_)
  refine lv_istore_n (lv' := [(1, .int r2.1), (0, .ref (a o))]) hx hb dX3_placeAll_14 rfl hl (by decide) rfl (fun ls hl => ?_)
  refine lv_iconst (v := 0) hx hb dX3_placeAll_15 (by decide) ?_
  refine lv_istore_n (lv' := [(2, .int (0 : Int32)), (1, .int r2.1), (0, .ref (a o))]) hx hb dX3_placeAll_16 rfl hl (by decide) rfl (fun ls hl => ?_)
  refine lv_iconst (v := 0) hx hb dX3_placeAll_17 (by decide) ?_
  refine lv_istore_n (lv' := [(3, .int (0 : Int32)), (2, .int (0 : Int32)), (1, .int r2.1), (0, .ref (a o))]) hx hb dX3_placeAll_18 rfl hl (by decide) rfl (fun ls hl => ?_)
  have hL19 : ∀ (n : Nat) (x3 : Int32) (x4 : Int32) (x5 : Int32) (x6 : Int32) (f7 : Nat → Int64) (f8 : Nat → Int32) (f9 : Nat → Int32) (x10 : Int32) (x11 : Int32) (x12 : Int32) (x13 : Int32) (x14 : Int32) (x15 : Int32) (x16 : Int32) (S17 : Nat → Nat → Int32) (H : Heap) (locs : List Loc) (ls : Array Slot), b_Wd D A s.heap H locs [k_PkO g a o (aS oS) (aC oC), k_Space g a (o+1) x5 x6 f7 f8 f9, k_Choice g a (o+5) x10 x11 x12 x13 x14 x15 x16, k_Line g a (o+6) r2.2, k_StO g aS oS, k_Sheet g aS (oS+1) (S 0 0) (S 1) (S 2) (S 3) (S 4), k_Settings g aS (oS+6) (S 5 0) (S 5 1) (S 5 2) (S 5 3) (S 5 4) (S 5 5) (S 5 6) (S 5 7) (S 5 8) (S 5 9) (S 5 10) (S 5 11), k_Places g aS (oS+7) (S17 6 0) (S17 7) (S17 8) (S17 9) (S17 10) (S17 11), k_Catalog g aC oC lefts tops cwidths cheights originals orients] → lv_has ls 4 [(0, .ref (a o)), (1, .int r2.1), (2, .int x3), (3, .int x4)] → f_X3_placeAll_L19 S cwidths cheights r2 n x3 x4 x5 x6 f7 f8 f9 x10 x11 x12 x13 x14 x15 x16 S17 = some u → W p l e (g_rm 6 141) s m args below meth c H locs 0 0 Q (F0 m 19 ls []) := by
    intro n
    induction n with
    | zero =>
      intro x3 x4 x5 x6 f7 f8 f9 x10 x11 x12 x13 x14 x15 x16 S17 H locs ls hw hl h
      cases (show none = some u from h)
    | succ n ih19 =>
      intro x3 x4 x5 x6 f7 f8 f9 x10 x11 x12 x13 x14 x15 x16 S17 H locs ls hw hl h
      rw [f_X3_placeAll_L19] at h
      refine lv_iload_n hx hb dX3_placeAll_19 rfl (lv_at hl 3 rfl) ?_
      refine lv_iload_n hx hb dX3_placeAll_20 rfl (lv_at hl 1 rfl) ?_
      refine lv_icmp_ge (tgt := 59) hx hb dX3_placeAll_21 (by decide) (fun hc21 => ?_) (fun hc21 => ?_)
      · rw [if_pos hc21] at h
        refine lv_iload_n hx hb dX3_placeAll_59 rfl (lv_at hl 2 rfl) ?_
        obtain rfl := Option.some.inj h
        exact b_iret hQ hx hb hr hlk hw rfl dX3_placeAll_60
      · rw [if_neg hc21] at h
        refine lv_aload_n hx hb dX3_placeAll_24 rfl (lv_at hl 0 rfl) ?_
        refine lv_aload_n hx hb dX3_placeAll_25 rfl (lv_at hl 0 rfl) ?_
        refine b_get hx hb hT hK hown fl_X3_25 hw 0 0 rfl rfl (v := .ref (a (o+6))) rfl dX3_placeAll_26 ?_
        refine lv_iload_n hx hb dX3_placeAll_29 rfl (lv_at hl 3 rfl) ?_
        obtain ⟨x18, ex18, hix18, h⟩ := g_rd_some h
        refine b_iald hx hb hK hw 3 0 rfl (f := r2.2) rfl hix18 ex18 dX3_placeAll_30 ?_
        obtain ⟨r19, er19, h⟩ := g_cl_some h
        refine b_callV hx hb hml hown hT hK hA hw mk_X3_52 (c_X3_choose l D g a o aS oS aC oC x5 x6 f7 f8 f9 x10 x11 x12 x13 x14 x15 x16 (updC (updC (updC (updC (updC (updC S 6 (upd (S 6) 0 (S17 6 0))) 7 (S17 7)) 8 (S17 8)) 9 (S17 9)) 10 (S17 10)) 11 (S17 11)) lefts tops cwidths cheights originals orients x18 r19 er19) [0, 1, 2, 4, 5, 6, 7, 8] [3] rfl (by decide) 0 0 rfl rfl rfl rfl hl.1 [] rfl (Nat.le_of_ble_eq_true rfl) ⟨Nat.le_of_ble_eq_true rfl, Nat.le_of_ble_eq_true rfl⟩ ⟨Nat.zero_le _, Nat.zero_le _⟩ dX3_placeAll_31 (wb' := [k_PkO g a o (aS oS) (aC oC), k_Space g a (o+1) x5 x6 f7 f8 f9, k_Choice g a (o+5) r19.2.1 r19.2.2.1 r19.2.2.2.1 r19.2.2.2.2.1 r19.2.2.2.2.2.1 r19.2.2.2.2.2.2.1 r19.2.2.2.2.2.2.2, k_Line g a (o+6) r2.2, k_StO g aS oS, k_Sheet g aS (oS+1) (S 0 0) (S 1) (S 2) (S 3) (S 4), k_Settings g aS (oS+6) (S 5 0) (S 5 1) (S 5 2) (S 5 3) (S 5 4) (S 5 5) (S 5 6) (S 5 7) (S 5 8) (S 5 9) (S 5 10) (S 5 11), k_Places g aS (oS+7) (S17 6 0) (S17 7) (S17 8) (S17 9) (S17 10) (S17 11), k_Catalog g aC oC lefts tops cwidths cheights originals orients]) rfl (b_e1 rfl b_e0) 9 rfl (by decide) (st2 := [.int r19.1]) rfl (fun H locs hw => ?_)
        obtain ⟨j53_26, ej53_26, h⟩ := g_jn_nm h
        have hj53_26 : ∀ (x20 : Int32) (x21 : Int32) (x22 : Int32) (f23 : Nat → Int64) (f24 : Nat → Int32) (f25 : Nat → Int32) (S26 : Nat → Nat → Int32) (H : Heap) (locs : List Loc) (ls : Array Slot), b_Wd D A s.heap H locs [k_PkO g a o (aS oS) (aC oC), k_Space g a (o+1) x21 x22 f23 f24 f25, k_Choice g a (o+5) r19.2.1 r19.2.2.1 r19.2.2.2.1 r19.2.2.2.2.1 r19.2.2.2.2.2.1 r19.2.2.2.2.2.2.1 r19.2.2.2.2.2.2.2, k_Line g a (o+6) r2.2, k_StO g aS oS, k_Sheet g aS (oS+1) (S 0 0) (S 1) (S 2) (S 3) (S 4), k_Settings g aS (oS+6) (S 5 0) (S 5 1) (S 5 2) (S 5 3) (S 5 4) (S 5 5) (S 5 6) (S 5 7) (S 5 8) (S 5 9) (S 5 10) (S 5 11), k_Places g aS (oS+7) (S26 6 0) (S26 7) (S26 8) (S26 9) (S26 10) (S26 11), k_Catalog g aC oC lefts tops cwidths cheights originals orients] → lv_has ls 4 [(0, .ref (a o)), (1, .int r2.1), (2, .int x20), (3, .int x4)] → j53_26 x20 x21 x22 f23 f24 f25 S26 = some u → W p l e (g_rm 6 141) s m args below meth c H locs 0 0 Q (F0 m 53 ls []) := by
          intro x20 x21 x22 f23 f24 f25 S26 H locs ls hw hl h
          subst ej53_26
          dsimp only at h
          obtain ⟨x28, ex28, h⟩ := g_bd_nm h
          refine lv_iinc (v := x28) (lv' := [(3, .int x28), (0, .ref (a o)), (1, .int r2.1), (2, .int x20)]) hx hb dX3_placeAll_53 hl (k := 3) rfl (by rw [ex28]; rfl) (by decide) rfl (fun ls hl => ?_)
          refine lv_goto (tgt := 19) hx hb dX3_placeAll_56 (by decide) ?_
          exact ih19 x20 x28 x21 x22 f23 f24 f25 r19.2.1 r19.2.2.1 r19.2.2.2.1 r19.2.2.2.2.1 r19.2.2.2.2.2.1 r19.2.2.2.2.2.2.1 r19.2.2.2.2.2.2.2 (updC (updC (updC (updC (updC (updC S 6 (upd (S 6) 0 (S26 6 0))) 7 (S26 7)) 8 (S26 8)) 9 (S26 9)) 10 (S26 10)) 11 (S26 11)) _ _ _ hw (lv_sub hl [1, 2, 3, 0] rfl) h
        refine lv_if_eq (tgt := 50) hx hb dX3_placeAll_34 (by decide) (fun hc34 => ?_) (fun hc34 => ?_)
        · rw [if_pos hc34] at h
          obtain ⟨x29, ex29, h⟩ := g_bd_nm h
          refine lv_iinc (v := x29) (lv' := [(2, .int x29), (0, .ref (a o)), (1, .int r2.1), (3, .int x4)]) hx hb dX3_placeAll_50 hl (k := 2) rfl (by rw [ex29]; rfl) (by decide) rfl (fun ls hl => ?_)
          exact hj53_26 x29 x5 x6 f7 f8 f9 (updC (updC (updC (updC (updC (updC S 6 (upd (S 6) 0 (S17 6 0))) 7 (S17 7)) 8 (S17 8)) 9 (S17 9)) 10 (S17 10)) 11 (S17 11)) _ _ _ hw (lv_sub hl [1, 2, 0, 3] rfl) h
        · rw [if_neg hc34] at h
          refine lv_aload_n hx hb dX3_placeAll_37 rfl (lv_at hl 0 rfl) ?_
          refine lv_aload_n hx hb dX3_placeAll_38 rfl (lv_at hl 0 rfl) ?_
          refine b_get hx hb hT hK hown fl_X3_25 hw 0 0 rfl rfl (v := .ref (a (o+6))) rfl dX3_placeAll_39 ?_
          refine lv_iload_n hx hb dX3_placeAll_42 rfl (lv_at hl 3 rfl) ?_
          obtain ⟨x30, ex30, hix30, h⟩ := g_rd_some h
          refine b_iald hx hb hK hw 3 0 rfl (f := r2.2) rfl hix30 ex30 dX3_placeAll_43 ?_
          obtain ⟨r31, er31, h⟩ := g_cl_some h
          refine b_callV hx hb hml hown hT hK hA hw mk_X3_56 (c_X3_putAsChosen l D g a o aS oS aC oC x5 x6 f7 f8 f9 r19.2.1 r19.2.2.1 r19.2.2.2.1 r19.2.2.2.2.1 r19.2.2.2.2.2.1 r19.2.2.2.2.2.2.1 r19.2.2.2.2.2.2.2 (updC (updC (updC (updC (updC (updC S 6 (upd (S 6) 0 (S17 6 0))) 7 (S17 7)) 8 (S17 8)) 9 (S17 9)) 10 (S17 10)) 11 (S17 11)) lefts tops cwidths cheights originals orients x30 r31 er31) [0, 1, 2, 4, 5, 6, 7, 8] [3] rfl (by decide) 0 0 rfl rfl rfl rfl hl.1 [] rfl (Nat.le_of_ble_eq_true rfl) ⟨Nat.le_of_ble_eq_true rfl, Nat.le_of_ble_eq_true rfl⟩ ⟨Nat.zero_le _, Nat.zero_le _⟩ dX3_placeAll_44 (wb' := [k_PkO g a o (aS oS) (aC oC), k_Space g a (o+1) r31.1 r31.2.1 r31.2.2.1 r31.2.2.2.1 r31.2.2.2.2.1, k_Choice g a (o+5) r19.2.1 r19.2.2.1 r19.2.2.2.1 r19.2.2.2.2.1 r19.2.2.2.2.2.1 r19.2.2.2.2.2.2.1 r19.2.2.2.2.2.2.2, k_Line g a (o+6) r2.2, k_StO g aS oS, k_Sheet g aS (oS+1) (S 0 0) (S 1) (S 2) (S 3) (S 4), k_Settings g aS (oS+6) (S 5 0) (S 5 1) (S 5 2) (S 5 3) (S 5 4) (S 5 5) (S 5 6) (S 5 7) (S 5 8) (S 5 9) (S 5 10) (S 5 11), k_Places g aS (oS+7) (r31.2.2.2.2.2 6 0) (r31.2.2.2.2.2 7) (r31.2.2.2.2.2 8) (r31.2.2.2.2.2 9) (r31.2.2.2.2.2 10) (r31.2.2.2.2.2 11), k_Catalog g aC oC lefts tops cwidths cheights originals orients]) rfl (b_e1 rfl b_e0) 9 rfl (by decide) (st2 := []) rfl (fun H locs hw => ?_)
          refine lv_goto (tgt := 53) hx hb dX3_placeAll_47 (by decide) ?_
          exact hj53_26 x3 r31.1 r31.2.1 r31.2.2.1 r31.2.2.2.1 r31.2.2.2.2.1 (updC (updC (updC (updC (updC (updC S 6 (upd (S 6) 0 (r31.2.2.2.2.2 6 0))) 7 (r31.2.2.2.2.2 7)) 8 (r31.2.2.2.2.2 8)) 9 (r31.2.2.2.2.2 9)) 10 (r31.2.2.2.2.2 10)) 11 (r31.2.2.2.2.2 11)) _ _ _ hw (lv_sub hl [0, 1, 2, 3] rfl) h
  exact hL19 g_fuel (0 : Int32) (0 : Int32) spW spH fr codes counts chFound chPage chCol chRow chTurned chFirst chSecond (updC (updC S 6 (upd (S 6) 0 r1.1)) 8 r1.2) _ _ _ hw (lv_sub hl [3, 2, 1, 0] rfl) h
set_option maxRecDepth 100000 in
set_option maxHeartbeats 4000000 in
theorem c_X3_imageColumn (l : Launch) (D : va_G) (g : Nat → ClassId) (a : Nat → Nat) (o : Nat) (aS : Nat → Nat) (oS : Nat) (aC : Nat → Nat) (oC : Nat) (S : Nat → Nat → Int32) (i1 : Int32) (u : Int32) (h : f_X3_imageColumn S i1 = some u) : b_Ct l yX3_imageColumn cX3_imageColumn 2 (some .int) 0 0 D g [.ref (a o), .int i1] [k_PkO g a o (aS oS) (aC oC), k_StO g aS oS, k_Settings g aS (oS+6) (S 5 0) (S 5 1) (S 5 2) (S 5 3) (S 5 4) (S 5 5) (S 5 6) (S 5 7) (S 5 8) (S 5 9) (S 5 10) (S 5 11), k_Places g aS (oS+7) (S 6 0) (S 7) (S 8) (S 9) (S 10) (S 11)] [k_PkO g a o (aS oS) (aC oC), k_StO g aS oS, k_Settings g aS (oS+6) (S 5 0) (S 5 1) (S 5 2) (S 5 3) (S 5 4) (S 5 5) (S 5 6) (S 5 7) (S 5 8) (S 5 9) (S 5 10) (S 5 11), k_Places g aS (oS+7) (S 6 0) (S 7) (S 8) (S 9) (S 10) (S 11)] (some (.int u)) := by
  refine b_start RX3 (by decide) rfl (Nat.le_of_ble_eq_true rfl) rfl ?_
  intro p e s m args below meth c A ls Q hQ hx hb hr hlk hml hown hT hK hA hw hl
  have hl : lv_has ls 2 [(0, .ref (a o)), (1, .int i1)] := hl
  unfold f_X3_imageColumn at h
  refine lv_aload_n hx hb dX3_imageColumn_0 rfl (lv_at hl 0 rfl) ?_
  refine b_get hx hb hT hK hown fl_X3_29 hw 0 0 rfl rfl (v := .ref (aS oS)) rfl dX3_imageColumn_1 ?_
  refine b_get hx hb hT hK hown fl_X3_37 hw 1 0 rfl rfl (v := .ref (aS (oS+7))) rfl dX3_imageColumn_4 ?_
  refine b_get hx hb hT hK hown fl_X3_110 hw 3 0 rfl rfl (v := .ref (aS (oS+10))) rfl dX3_imageColumn_7 ?_
  refine lv_iload_n hx hb dX3_imageColumn_10 rfl (lv_at hl 1 rfl) ?_
  obtain ⟨x1, ex1, hix1, h⟩ := g_rd_some h
  refine b_iald hx hb hK hw 3 3 rfl (f := (S 9)) rfl hix1 ex1 dX3_imageColumn_11 ?_
  refine lv_aload_n hx hb dX3_imageColumn_12 rfl (lv_at hl 0 rfl) ?_
  refine b_get hx hb hT hK hown fl_X3_29 hw 0 0 rfl rfl (v := .ref (aS oS)) rfl dX3_imageColumn_13 ?_
  refine b_get hx hb hT hK hown fl_X3_71 hw 1 0 rfl rfl (v := .ref (aS (oS+6))) rfl dX3_imageColumn_16 ?_
  refine b_get hx hb hT hK hown fl_X3_159 hw 2 0 rfl rfl (v := .int (S 5 4)) rfl dX3_imageColumn_19 ?_
  refine lv_iadd hx hb dX3_imageColumn_22 ?_
  refine lv_aload_n hx hb dX3_imageColumn_23 rfl (lv_at hl 0 rfl) ?_
  refine b_get hx hb hT hK hown fl_X3_29 hw 0 0 rfl rfl (v := .ref (aS oS)) rfl dX3_imageColumn_24 ?_
  refine b_get hx hb hT hK hown fl_X3_71 hw 1 0 rfl rfl (v := .ref (aS (oS+6))) rfl dX3_imageColumn_27 ?_
  refine b_get hx hb hT hK hown fl_X3_162 hw 2 0 rfl rfl (v := .int (S 5 5)) rfl dX3_imageColumn_30 ?_
  refine lv_iadd hx hb dX3_imageColumn_33 ?_
  obtain rfl := Option.some.inj h
  exact b_iret hQ hx hb hr hlk hw rfl dX3_imageColumn_34
set_option maxRecDepth 100000 in
set_option maxHeartbeats 4000000 in
theorem c_X3_imageRow (l : Launch) (D : va_G) (g : Nat → ClassId) (a : Nat → Nat) (o : Nat) (aS : Nat → Nat) (oS : Nat) (aC : Nat → Nat) (oC : Nat) (S : Nat → Nat → Int32) (i1 : Int32) (u : Int32) (h : f_X3_imageRow S i1 = some u) : b_Ct l yX3_imageRow cX3_imageRow 2 (some .int) 0 0 D g [.ref (a o), .int i1] [k_PkO g a o (aS oS) (aC oC), k_StO g aS oS, k_Settings g aS (oS+6) (S 5 0) (S 5 1) (S 5 2) (S 5 3) (S 5 4) (S 5 5) (S 5 6) (S 5 7) (S 5 8) (S 5 9) (S 5 10) (S 5 11), k_Places g aS (oS+7) (S 6 0) (S 7) (S 8) (S 9) (S 10) (S 11)] [k_PkO g a o (aS oS) (aC oC), k_StO g aS oS, k_Settings g aS (oS+6) (S 5 0) (S 5 1) (S 5 2) (S 5 3) (S 5 4) (S 5 5) (S 5 6) (S 5 7) (S 5 8) (S 5 9) (S 5 10) (S 5 11), k_Places g aS (oS+7) (S 6 0) (S 7) (S 8) (S 9) (S 10) (S 11)] (some (.int u)) := by
  refine b_start RX3 (by decide) rfl (Nat.le_of_ble_eq_true rfl) rfl ?_
  intro p e s m args below meth c A ls Q hQ hx hb hr hlk hml hown hT hK hA hw hl
  have hl : lv_has ls 2 [(0, .ref (a o)), (1, .int i1)] := hl
  unfold f_X3_imageRow at h
  refine lv_aload_n hx hb dX3_imageRow_0 rfl (lv_at hl 0 rfl) ?_
  refine b_get hx hb hT hK hown fl_X3_29 hw 0 0 rfl rfl (v := .ref (aS oS)) rfl dX3_imageRow_1 ?_
  refine b_get hx hb hT hK hown fl_X3_37 hw 1 0 rfl rfl (v := .ref (aS (oS+7))) rfl dX3_imageRow_4 ?_
  refine b_get hx hb hT hK hown fl_X3_116 hw 3 0 rfl rfl (v := .ref (aS (oS+11))) rfl dX3_imageRow_7 ?_
  refine lv_iload_n hx hb dX3_imageRow_10 rfl (lv_at hl 1 rfl) ?_
  obtain ⟨x1, ex1, hix1, h⟩ := g_rd_some h
  refine b_iald hx hb hK hw 3 4 rfl (f := (S 10)) rfl hix1 ex1 dX3_imageRow_11 ?_
  refine lv_aload_n hx hb dX3_imageRow_12 rfl (lv_at hl 0 rfl) ?_
  refine b_get hx hb hT hK hown fl_X3_29 hw 0 0 rfl rfl (v := .ref (aS oS)) rfl dX3_imageRow_13 ?_
  refine b_get hx hb hT hK hown fl_X3_71 hw 1 0 rfl rfl (v := .ref (aS (oS+6))) rfl dX3_imageRow_16 ?_
  refine b_get hx hb hT hK hown fl_X3_159 hw 2 0 rfl rfl (v := .int (S 5 4)) rfl dX3_imageRow_19 ?_
  refine lv_iadd hx hb dX3_imageRow_22 ?_
  refine lv_aload_n hx hb dX3_imageRow_23 rfl (lv_at hl 0 rfl) ?_
  refine b_get hx hb hT hK hown fl_X3_29 hw 0 0 rfl rfl (v := .ref (aS oS)) rfl dX3_imageRow_24 ?_
  refine b_get hx hb hT hK hown fl_X3_71 hw 1 0 rfl rfl (v := .ref (aS (oS+6))) rfl dX3_imageRow_27 ?_
  refine b_get hx hb hT hK hown fl_X3_162 hw 2 0 rfl rfl (v := .int (S 5 5)) rfl dX3_imageRow_30 ?_
  refine lv_iadd hx hb dX3_imageRow_33 ?_
  obtain rfl := Option.some.inj h
  exact b_iret hQ hx hb hr hlk hw rfl dX3_imageRow_34
set_option maxRecDepth 100000 in
set_option maxHeartbeats 4000000 in
theorem c_X3_imageWidth (l : Launch) (D : va_G) (g : Nat → ClassId) (a : Nat → Nat) (o : Nat) (aS : Nat → Nat) (oS : Nat) (aC : Nat → Nat) (oC : Nat) (S : Nat → Nat → Int32) (lefts : (Nat → Int32)) (tops : (Nat → Int32)) (cwidths : (Nat → Int32)) (cheights : (Nat → Int32)) (originals : (Nat → Int32)) (orients : (Nat → Int32)) (i1 : Int32) (u : Int32) (h : f_X3_imageWidth S cwidths cheights i1 = some u) : b_Ct l yX3_imageWidth cX3_imageWidth 2 (some .int) 0 0 D g [.ref (a o), .int i1] [k_PkO g a o (aS oS) (aC oC), k_StO g aS oS, k_Places g aS (oS+7) (S 6 0) (S 7) (S 8) (S 9) (S 10) (S 11), k_Catalog g aC oC lefts tops cwidths cheights originals orients] [k_PkO g a o (aS oS) (aC oC), k_StO g aS oS, k_Places g aS (oS+7) (S 6 0) (S 7) (S 8) (S 9) (S 10) (S 11), k_Catalog g aC oC lefts tops cwidths cheights originals orients] (some (.int u)) := by
  refine b_start RX3 (by decide) rfl (Nat.le_of_ble_eq_true rfl) rfl ?_
  intro p e s m args below meth c A ls Q hQ hx hb hr hlk hml hown hT hK hA hw hl
  have hl : lv_has ls 2 [(0, .ref (a o)), (1, .int i1)] := hl
  unfold f_X3_imageWidth at h
  refine lv_aload_n hx hb dX3_imageWidth_0 rfl (lv_at hl 0 rfl) ?_
  refine b_get hx hb hT hK hown fl_X3_29 hw 0 0 rfl rfl (v := .ref (aS oS)) rfl dX3_imageWidth_1 ?_
  refine b_get hx hb hT hK hown fl_X3_37 hw 1 0 rfl rfl (v := .ref (aS (oS+7))) rfl dX3_imageWidth_4 ?_
  refine b_get hx hb hT hK hown fl_X3_122 hw 2 0 rfl rfl (v := .ref (aS (oS+12))) rfl dX3_imageWidth_7 ?_
  refine lv_iload_n hx hb dX3_imageWidth_10 rfl (lv_at hl 1 rfl) ?_
  obtain ⟨x1, ex1, hix1, h⟩ := g_rd_some h
  refine b_zald hx hb hK hw 2 5 rfl (f := (S 11)) rfl hix1 ex1 dX3_imageWidth_11 ?_
  refine lv_if_eq (tgt := 27) hx hb dX3_imageWidth_12 (by decide) (fun hc12 => ?_) (fun hc12 => ?_)
  · rw [if_pos hc12] at h
    refine lv_aload_n hx hb dX3_imageWidth_27 rfl (lv_at hl 0 rfl) ?_
    refine b_get hx hb hT hK hown fl_X3_33 hw 0 0 rfl rfl (v := .ref (aC oC)) rfl dX3_imageWidth_28 ?_
    refine b_get hx hb hT hK hown fl_X3_191 hw 3 0 rfl rfl (v := .ref (aC (oC+3))) rfl dX3_imageWidth_31 ?_
    refine lv_iload_n hx hb dX3_imageWidth_34 rfl (lv_at hl 1 rfl) ?_
    obtain ⟨x2, ex2, hix2, h⟩ := g_rd_some h
    refine b_iald hx hb hK hw 3 3 rfl (f := cwidths) rfl hix2 ex2 dX3_imageWidth_35 ?_
    obtain rfl := Option.some.inj h
    exact b_iret hQ hx hb hr hlk hw rfl dX3_imageWidth_36
  · rw [if_neg hc12] at h
    refine lv_aload_n hx hb dX3_imageWidth_15 rfl (lv_at hl 0 rfl) ?_
    refine b_get hx hb hT hK hown fl_X3_33 hw 0 0 rfl rfl (v := .ref (aC oC)) rfl dX3_imageWidth_16 ?_
    refine b_get hx hb hT hK hown fl_X3_194 hw 3 0 rfl rfl (v := .ref (aC (oC+4))) rfl dX3_imageWidth_19 ?_
    refine lv_iload_n hx hb dX3_imageWidth_22 rfl (lv_at hl 1 rfl) ?_
    obtain ⟨x3, ex3, hix3, h⟩ := g_rd_some h
    refine b_iald hx hb hK hw 3 4 rfl (f := cheights) rfl hix3 ex3 dX3_imageWidth_23 ?_
    refine lv_goto (tgt := 36) hx hb dX3_imageWidth_24 (by decide) ?_
    obtain rfl := Option.some.inj h
    exact b_iret hQ hx hb hr hlk hw rfl dX3_imageWidth_36
set_option maxRecDepth 100000 in
set_option maxHeartbeats 4000000 in
theorem c_X3_imageHeight (l : Launch) (D : va_G) (g : Nat → ClassId) (a : Nat → Nat) (o : Nat) (aS : Nat → Nat) (oS : Nat) (aC : Nat → Nat) (oC : Nat) (S : Nat → Nat → Int32) (lefts : (Nat → Int32)) (tops : (Nat → Int32)) (cwidths : (Nat → Int32)) (cheights : (Nat → Int32)) (originals : (Nat → Int32)) (orients : (Nat → Int32)) (i1 : Int32) (u : Int32) (h : f_X3_imageHeight S cwidths cheights i1 = some u) : b_Ct l yX3_imageHeight cX3_imageHeight 2 (some .int) 0 0 D g [.ref (a o), .int i1] [k_PkO g a o (aS oS) (aC oC), k_StO g aS oS, k_Places g aS (oS+7) (S 6 0) (S 7) (S 8) (S 9) (S 10) (S 11), k_Catalog g aC oC lefts tops cwidths cheights originals orients] [k_PkO g a o (aS oS) (aC oC), k_StO g aS oS, k_Places g aS (oS+7) (S 6 0) (S 7) (S 8) (S 9) (S 10) (S 11), k_Catalog g aC oC lefts tops cwidths cheights originals orients] (some (.int u)) := by
  refine b_start RX3 (by decide) rfl (Nat.le_of_ble_eq_true rfl) rfl ?_
  intro p e s m args below meth c A ls Q hQ hx hb hr hlk hml hown hT hK hA hw hl
  have hl : lv_has ls 2 [(0, .ref (a o)), (1, .int i1)] := hl
  unfold f_X3_imageHeight at h
  refine lv_aload_n hx hb dX3_imageHeight_0 rfl (lv_at hl 0 rfl) ?_
  refine b_get hx hb hT hK hown fl_X3_29 hw 0 0 rfl rfl (v := .ref (aS oS)) rfl dX3_imageHeight_1 ?_
  refine b_get hx hb hT hK hown fl_X3_37 hw 1 0 rfl rfl (v := .ref (aS (oS+7))) rfl dX3_imageHeight_4 ?_
  refine b_get hx hb hT hK hown fl_X3_122 hw 2 0 rfl rfl (v := .ref (aS (oS+12))) rfl dX3_imageHeight_7 ?_
  refine lv_iload_n hx hb dX3_imageHeight_10 rfl (lv_at hl 1 rfl) ?_
  obtain ⟨x1, ex1, hix1, h⟩ := g_rd_some h
  refine b_zald hx hb hK hw 2 5 rfl (f := (S 11)) rfl hix1 ex1 dX3_imageHeight_11 ?_
  refine lv_if_eq (tgt := 27) hx hb dX3_imageHeight_12 (by decide) (fun hc12 => ?_) (fun hc12 => ?_)
  · rw [if_pos hc12] at h
    refine lv_aload_n hx hb dX3_imageHeight_27 rfl (lv_at hl 0 rfl) ?_
    refine b_get hx hb hT hK hown fl_X3_33 hw 0 0 rfl rfl (v := .ref (aC oC)) rfl dX3_imageHeight_28 ?_
    refine b_get hx hb hT hK hown fl_X3_194 hw 3 0 rfl rfl (v := .ref (aC (oC+4))) rfl dX3_imageHeight_31 ?_
    refine lv_iload_n hx hb dX3_imageHeight_34 rfl (lv_at hl 1 rfl) ?_
    obtain ⟨x2, ex2, hix2, h⟩ := g_rd_some h
    refine b_iald hx hb hK hw 3 4 rfl (f := cheights) rfl hix2 ex2 dX3_imageHeight_35 ?_
    obtain rfl := Option.some.inj h
    exact b_iret hQ hx hb hr hlk hw rfl dX3_imageHeight_36
  · rw [if_neg hc12] at h
    refine lv_aload_n hx hb dX3_imageHeight_15 rfl (lv_at hl 0 rfl) ?_
    refine b_get hx hb hT hK hown fl_X3_33 hw 0 0 rfl rfl (v := .ref (aC oC)) rfl dX3_imageHeight_16 ?_
    refine b_get hx hb hT hK hown fl_X3_191 hw 3 0 rfl rfl (v := .ref (aC (oC+3))) rfl dX3_imageHeight_19 ?_
    refine lv_iload_n hx hb dX3_imageHeight_22 rfl (lv_at hl 1 rfl) ?_
    obtain ⟨x3, ex3, hix3, h⟩ := g_rd_some h
    refine b_iald hx hb hK hw 3 3 rfl (f := cwidths) rfl hix3 ex3 dX3_imageHeight_23 ?_
    refine lv_goto (tgt := 36) hx hb dX3_imageHeight_24 (by decide) ?_
    obtain rfl := Option.some.inj h
    exact b_iret hQ hx hb hr hlk hw rfl dX3_imageHeight_36
set_option maxRecDepth 100000 in
set_option maxHeartbeats 4000000 in
theorem c_X3_ownerOf (l : Launch) (D : va_G) (g : Nat → ClassId) (a : Nat → Nat) (o : Nat) (aS : Nat → Nat) (oS : Nat) (aC : Nat → Nat) (oC : Nat) (S : Nat → Nat → Int32) (lefts : (Nat → Int32)) (tops : (Nat → Int32)) (cwidths : (Nat → Int32)) (cheights : (Nat → Int32)) (originals : (Nat → Int32)) (orients : (Nat → Int32)) (i1 : Int32) (i2 : Int32) (i3 : Int32) (u : Int32) (h : f_X3_ownerOf S cwidths cheights i1 i2 i3 = some u) : b_Ct l yX3_ownerOf cX3_ownerOf 8 (some .int) 1 21 D g [.ref (a o), .int i1, .int i2, .int i3] [k_PkO g a o (aS oS) (aC oC), k_StO g aS oS, k_Sheet g aS (oS+1) (S 0 0) (S 1) (S 2) (S 3) (S 4), k_Settings g aS (oS+6) (S 5 0) (S 5 1) (S 5 2) (S 5 3) (S 5 4) (S 5 5) (S 5 6) (S 5 7) (S 5 8) (S 5 9) (S 5 10) (S 5 11), k_Places g aS (oS+7) (S 6 0) (S 7) (S 8) (S 9) (S 10) (S 11), k_Catalog g aC oC lefts tops cwidths cheights originals orients] [k_PkO g a o (aS oS) (aC oC), k_StO g aS oS, k_Sheet g aS (oS+1) (S 0 0) (S 1) (S 2) (S 3) (S 4), k_Settings g aS (oS+6) (S 5 0) (S 5 1) (S 5 2) (S 5 3) (S 5 4) (S 5 5) (S 5 6) (S 5 7) (S 5 8) (S 5 9) (S 5 10) (S 5 11), k_Places g aS (oS+7) (S 6 0) (S 7) (S 8) (S 9) (S 10) (S 11), k_Catalog g aC oC lefts tops cwidths cheights originals orients] (some (.int u)) := by
  refine b_start RX3 (by decide) rfl (Nat.le_of_ble_eq_true rfl) rfl ?_
  intro p e s m args below meth c A ls Q hQ hx hb hr hlk hml hown hT hK hA hw hl
  have hl : lv_has ls 8 [(0, .ref (a o)), (1, .int i1), (2, .int i2), (3, .int i3)] := hl
  unfold f_X3_ownerOf at h
  refine lv_aload_n hx hb dX3_ownerOf_0 rfl (lv_at hl 0 rfl) ?_
  refine b_get hx hb hT hK hown fl_X3_29 hw 0 0 rfl rfl (v := .ref (aS oS)) rfl dX3_ownerOf_1 ?_
  refine b_get hx hb hT hK hown fl_X3_71 hw 1 0 rfl rfl (v := .ref (aS (oS+6))) rfl dX3_ownerOf_4 ?_
  refine b_get hx hb hT hK hown fl_X3_162 hw 3 0 rfl rfl (v := .int (S 5 5)) rfl dX3_ownerOf_7 ?_
  refine lv_istore (lv' := [(4, .int (S 5 5)), (0, .ref (a o)), (1, .int i1), (2, .int i2), (3, .int i3)]) hx hb dX3_ownerOf_10 hl (by decide) rfl (fun ls hl => ?_)
  refine lv_iconst (v := 0) hx hb dX3_ownerOf_12 (by decide) ?_
  refine lv_istore (lv' := [(5, .int (0 : Int32)), (4, .int (S 5 5)), (0, .ref (a o)), (1, .int i1), (2, .int i2), (3, .int i3)]) hx hb dX3_ownerOf_13 hl (by decide) rfl (fun ls hl => ?_)
  have hL15 : ∀ (n : Nat) (x1 : Int32) (H : Heap) (locs : List Loc) (ls : Array Slot), b_Wd D A s.heap H locs [k_PkO g a o (aS oS) (aC oC), k_StO g aS oS, k_Sheet g aS (oS+1) (S 0 0) (S 1) (S 2) (S 3) (S 4), k_Settings g aS (oS+6) (S 5 0) (S 5 1) (S 5 2) (S 5 3) (S 5 4) (S 5 5) (S 5 6) (S 5 7) (S 5 8) (S 5 9) (S 5 10) (S 5 11), k_Places g aS (oS+7) (S 6 0) (S 7) (S 8) (S 9) (S 10) (S 11), k_Catalog g aC oC lefts tops cwidths cheights originals orients] → lv_has ls 8 [(0, .ref (a o)), (1, .int i1), (2, .int i2), (3, .int i3), (4, .int (S 5 5)), (5, .int x1)] → f_X3_ownerOf_L15 S cwidths cheights i1 i2 i3 n x1 = some u → W p l e (g_rm 1 21) s m args below meth c H locs 0 0 Q (F0 m 15 ls []) := by
    intro n
    induction n with
    | zero =>
      intro x1 H locs ls hw hl h
      cases (show none = some u from h)
    | succ n ih15 =>
      intro x1 H locs ls hw hl h
      rw [f_X3_ownerOf_L15] at h
      refine lv_iload hx hb dX3_ownerOf_15 (lv_at hl 5 rfl) ?_
      refine lv_aload_n hx hb dX3_ownerOf_17 rfl (lv_at hl 0 rfl) ?_
      refine b_get hx hb hT hK hown fl_X3_29 hw 0 0 rfl rfl (v := .ref (aS oS)) rfl dX3_ownerOf_18 ?_
      refine b_get hx hb hT hK hown fl_X3_92 hw 1 0 rfl rfl (v := .ref (aS (oS+1))) rfl dX3_ownerOf_21 ?_
      refine b_get hx hb hT hK hown fl_X3_142 hw 2 0 rfl rfl (v := .int (S 0 0)) rfl dX3_ownerOf_24 ?_
      refine lv_icmp_ge (tgt := 120) hx hb dX3_ownerOf_27 (by decide) (fun hc27 => ?_) (fun hc27 => ?_)
      · rw [if_pos hc27] at h
        refine lv_bipush (v := -4) hx hb dX3_ownerOf_120 (by decide) ?_
        obtain rfl := Option.some.inj h
        exact b_iret hQ hx hb hr hlk hw rfl dX3_ownerOf_122
      · rw [if_neg hc27] at h
        refine lv_aload_n hx hb dX3_ownerOf_30 rfl (lv_at hl 0 rfl) ?_
        refine b_get hx hb hT hK hown fl_X3_29 hw 0 0 rfl rfl (v := .ref (aS oS)) rfl dX3_ownerOf_31 ?_
        refine b_get hx hb hT hK hown fl_X3_37 hw 1 0 rfl rfl (v := .ref (aS (oS+7))) rfl dX3_ownerOf_34 ?_
        refine b_get hx hb hT hK hown fl_X3_107 hw 4 0 rfl rfl (v := .ref (aS (oS+9))) rfl dX3_ownerOf_37 ?_
        refine lv_iload hx hb dX3_ownerOf_40 (lv_at hl 5 rfl) ?_
        obtain ⟨x2, ex2, hix2, h⟩ := g_rd_some h
        refine b_iald hx hb hK hw 4 2 rfl (f := (S 8)) rfl hix2 ex2 dX3_ownerOf_42 ?_
        refine lv_iload_n hx hb dX3_ownerOf_43 rfl (lv_at hl 1 rfl) ?_
        obtain ⟨j114_2, ej114_2, h⟩ := g_jn_nm h
        have hj114_2 : ∀ (H : Heap) (locs : List Loc) (ls : Array Slot), b_Wd D A s.heap H locs [k_PkO g a o (aS oS) (aC oC), k_StO g aS oS, k_Sheet g aS (oS+1) (S 0 0) (S 1) (S 2) (S 3) (S 4), k_Settings g aS (oS+6) (S 5 0) (S 5 1) (S 5 2) (S 5 3) (S 5 4) (S 5 5) (S 5 6) (S 5 7) (S 5 8) (S 5 9) (S 5 10) (S 5 11), k_Places g aS (oS+7) (S 6 0) (S 7) (S 8) (S 9) (S 10) (S 11), k_Catalog g aC oC lefts tops cwidths cheights originals orients] → lv_has ls 8 [(0, .ref (a o)), (1, .int i1), (2, .int i2), (3, .int i3), (4, .int (S 5 5)), (5, .int x1)] → j114_2 = some u → W p l e (g_rm 1 21) s m args below meth c H locs 0 0 Q (F0 m 114 ls []) := by
          intro  H locs ls hw hl h
          subst ej114_2
          obtain ⟨x4, ex4, h⟩ := g_bd_nm h
          refine lv_iinc (v := x4) (lv' := [(5, .int x4), (0, .ref (a o)), (1, .int i1), (2, .int i2), (3, .int i3), (4, .int (S 5 5))]) hx hb dX3_ownerOf_114 hl (k := 5) rfl (by rw [ex4]; rfl) (by decide) rfl (fun ls hl => ?_)
          refine lv_goto (tgt := 15) hx hb dX3_ownerOf_117 (by decide) ?_
          exact ih15 x4 _ _ _ hw (lv_sub hl [1, 2, 3, 4, 5, 0] rfl) h
        refine lv_icmp_ne (tgt := 114) hx hb dX3_ownerOf_44 (by decide) (fun hc44 => ?_) (fun hc44 => ?_)
        · rw [if_neg hc44] at h
          exact hj114_2  _ _ _ hw (lv_sub hl [0, 1, 2, 3, 4, 5] rfl) h
        · rw [if_pos hc44] at h
          refine lv_iload_n hx hb dX3_ownerOf_47 rfl (lv_at hl 2 rfl) ?_
          refine lv_aload_n hx hb dX3_ownerOf_48 rfl (lv_at hl 0 rfl) ?_
          refine lv_iload hx hb dX3_ownerOf_49 (lv_at hl 5 rfl) ?_
          obtain ⟨r5, er5, h⟩ := g_cl_some h
          refine b_callV hx hb hml hown hT hK hA hw mk_X3_165 (c_X3_imageColumn l D g a o aS oS aC oC S x1 r5 er5) [0, 1, 3, 4] [2, 5] rfl (by decide) 0 0 rfl rfl rfl rfl hl.1 [.int i2] rfl (Nat.le_of_ble_eq_true rfl) ⟨Nat.le_of_ble_eq_true rfl, Nat.le_of_ble_eq_true rfl⟩ ⟨Nat.zero_le _, Nat.zero_le _⟩ dX3_ownerOf_51 (wb' := [k_PkO g a o (aS oS) (aC oC), k_StO g aS oS, k_Sheet g aS (oS+1) (S 0 0) (S 1) (S 2) (S 3) (S 4), k_Settings g aS (oS+6) (S 5 0) (S 5 1) (S 5 2) (S 5 3) (S 5 4) (S 5 5) (S 5 6) (S 5 7) (S 5 8) (S 5 9) (S 5 10) (S 5 11), k_Places g aS (oS+7) (S 6 0) (S 7) (S 8) (S 9) (S 10) (S 11), k_Catalog g aC oC lefts tops cwidths cheights originals orients]) rfl (b_e1 rfl (b_e1 rfl b_e0)) 6 rfl (by decide) (st2 := [.int r5, .int i2]) rfl (fun H locs hw => ?_)
          refine lv_isub hx hb dX3_ownerOf_54 ?_
          obtain ⟨x6, ex6, h⟩ := g_bd_nm h
          refine g_topi ex6 ?_
          refine lv_istore (lv' := [(6, .int x6), (0, .ref (a o)), (1, .int i1), (2, .int i2), (3, .int i3), (4, .int (S 5 5)), (5, .int x1)]) hx hb dX3_ownerOf_55 hl (by decide) rfl (fun ls hl => ?_)
          refine lv_iload_n hx hb dX3_ownerOf_57 rfl (lv_at hl 4 rfl) ?_
          refine lv_aload_n hx hb dX3_ownerOf_58 rfl (lv_at hl 1 rfl) ?_
          refine lv_iload hx hb dX3_ownerOf_59 (lv_at hl 6 rfl) ?_
          obtain ⟨r7, er7, h⟩ := g_cl_some h
          refine b_callV hx hb hml hown hT hK hA hw mk_X3_169 (c_X3_imageRow l D g a o aS oS aC oC S x1 r7 er7) [0, 1, 3, 4] [2, 5] rfl (by decide) 0 0 rfl rfl rfl rfl hl.1 [.int i3] rfl (Nat.le_of_ble_eq_true rfl) ⟨Nat.le_of_ble_eq_true rfl, Nat.le_of_ble_eq_true rfl⟩ ⟨Nat.zero_le _, Nat.zero_le _⟩ dX3_ownerOf_61 (wb' := [k_PkO g a o (aS oS) (aC oC), k_StO g aS oS, k_Sheet g aS (oS+1) (S 0 0) (S 1) (S 2) (S 3) (S 4), k_Settings g aS (oS+6) (S 5 0) (S 5 1) (S 5 2) (S 5 3) (S 5 4) (S 5 5) (S 5 6) (S 5 7) (S 5 8) (S 5 9) (S 5 10) (S 5 11), k_Places g aS (oS+7) (S 6 0) (S 7) (S 8) (S 9) (S 10) (S 11), k_Catalog g aC oC lefts tops cwidths cheights originals orients]) rfl (b_e1 rfl (b_e1 rfl b_e0)) 6 rfl (by decide) (st2 := [.int r7, .int i3]) rfl (fun H locs hw => ?_)
          refine lv_isub hx hb dX3_ownerOf_64 ?_
          obtain ⟨x8, ex8, h⟩ := g_bd_nm h
          refine g_topi ex8 ?_
          refine lv_istore (lv' := [(7, .int x8), (6, .int x6), (0, .ref (a o)), (1, .int i1), (2, .int i2), (3, .int i3), (4, .int (S 5 5)), (5, .int x1)]) hx hb dX3_ownerOf_65 hl (by decide) rfl (fun ls hl => ?_)
          refine lv_iload hx hb dX3_ownerOf_67 (lv_at hl 1 rfl) ?_
          refine lv_iload hx hb dX3_ownerOf_69 (lv_at hl 6 rfl) ?_
          refine lv_ineg hx hb dX3_ownerOf_71 ?_
          refine lv_icmp_lt (tgt := 114) hx hb dX3_ownerOf_72 (by decide) (fun hc72 => ?_) (fun hc72 => ?_)
          · rw [if_pos hc72] at h
            exact hj114_2  _ _ _ hw (lv_sub hl [2, 3, 4, 5, 6, 7] rfl) h
          · rw [if_neg hc72] at h
            refine lv_iload hx hb dX3_ownerOf_75 (lv_at hl 1 rfl) ?_
            refine lv_aload_n hx hb dX3_ownerOf_77 rfl (lv_at hl 2 rfl) ?_
            refine lv_iload hx hb dX3_ownerOf_78 (lv_at hl 7 rfl) ?_
            obtain ⟨r9, er9, h⟩ := g_cl_some h
            refine b_callV hx hb hml hown hT hK hA hw mk_X3_172 (c_X3_imageWidth l D g a o aS oS aC oC S lefts tops cwidths cheights originals orients x1 r9 er9) [0, 1, 4, 5] [2, 3] rfl (by decide) 0 0 rfl rfl rfl rfl hl.1 [.int x6] rfl (Nat.le_of_ble_eq_true rfl) ⟨Nat.le_of_ble_eq_true rfl, Nat.le_of_ble_eq_true rfl⟩ ⟨Nat.zero_le _, Nat.zero_le _⟩ dX3_ownerOf_80 (wb' := [k_PkO g a o (aS oS) (aC oC), k_StO g aS oS, k_Sheet g aS (oS+1) (S 0 0) (S 1) (S 2) (S 3) (S 4), k_Settings g aS (oS+6) (S 5 0) (S 5 1) (S 5 2) (S 5 3) (S 5 4) (S 5 5) (S 5 6) (S 5 7) (S 5 8) (S 5 9) (S 5 10) (S 5 11), k_Places g aS (oS+7) (S 6 0) (S 7) (S 8) (S 9) (S 10) (S 11), k_Catalog g aC oC lefts tops cwidths cheights originals orients]) rfl (b_e1 rfl (b_e1 rfl b_e0)) 6 rfl (by decide) (st2 := [.int r9, .int x6]) rfl (fun H locs hw => ?_)
            refine lv_iload hx hb dX3_ownerOf_83 (lv_at hl 6 rfl) ?_
            refine lv_iadd hx hb dX3_ownerOf_85 ?_
            refine lv_icmp_ge (tgt := 114) hx hb dX3_ownerOf_86 (by decide) (fun hc86 => ?_) (fun hc86 => ?_)
            · rw [if_pos hc86] at h
              exact hj114_2  _ _ _ hw (lv_sub hl [2, 3, 4, 5, 6, 7] rfl) h
            · rw [if_neg hc86] at h
              refine lv_iload hx hb dX3_ownerOf_89 (lv_at hl 0 rfl) ?_
              refine lv_iload hx hb dX3_ownerOf_91 (lv_at hl 6 rfl) ?_
              refine lv_ineg hx hb dX3_ownerOf_93 ?_
              refine lv_icmp_lt (tgt := 114) hx hb dX3_ownerOf_94 (by decide) (fun hc94 => ?_) (fun hc94 => ?_)
              · rw [if_pos hc94] at h
                exact hj114_2  _ _ _ hw (lv_sub hl [2, 3, 4, 5, 6, 7] rfl) h
              · rw [if_neg hc94] at h
                refine lv_iload hx hb dX3_ownerOf_97 (lv_at hl 0 rfl) ?_
                refine lv_aload_n hx hb dX3_ownerOf_99 rfl (lv_at hl 2 rfl) ?_
                refine lv_iload hx hb dX3_ownerOf_100 (lv_at hl 7 rfl) ?_
                obtain ⟨r10, er10, h⟩ := g_cl_some h
                refine b_callV hx hb hml hown hT hK hA hw mk_X3_175 (c_X3_imageHeight l D g a o aS oS aC oC S lefts tops cwidths cheights originals orients x1 r10 er10) [0, 1, 4, 5] [2, 3] rfl (by decide) 0 0 rfl rfl rfl rfl hl.1 [.int x8] rfl (Nat.le_of_ble_eq_true rfl) ⟨Nat.le_of_ble_eq_true rfl, Nat.le_of_ble_eq_true rfl⟩ ⟨Nat.zero_le _, Nat.zero_le _⟩ dX3_ownerOf_102 (wb' := [k_PkO g a o (aS oS) (aC oC), k_StO g aS oS, k_Sheet g aS (oS+1) (S 0 0) (S 1) (S 2) (S 3) (S 4), k_Settings g aS (oS+6) (S 5 0) (S 5 1) (S 5 2) (S 5 3) (S 5 4) (S 5 5) (S 5 6) (S 5 7) (S 5 8) (S 5 9) (S 5 10) (S 5 11), k_Places g aS (oS+7) (S 6 0) (S 7) (S 8) (S 9) (S 10) (S 11), k_Catalog g aC oC lefts tops cwidths cheights originals orients]) rfl (b_e1 rfl (b_e1 rfl b_e0)) 6 rfl (by decide) (st2 := [.int r10, .int x8]) rfl (fun H locs hw => ?_)
                refine lv_iload hx hb dX3_ownerOf_105 (lv_at hl 6 rfl) ?_
                refine lv_iadd hx hb dX3_ownerOf_107 ?_
                refine lv_icmp_ge (tgt := 114) hx hb dX3_ownerOf_108 (by decide) (fun hc108 => ?_) (fun hc108 => ?_)
                · rw [if_pos hc108] at h
                  exact hj114_2  _ _ _ hw (lv_sub hl [2, 3, 4, 5, 6, 7] rfl) h
                · rw [if_neg hc108] at h
                  refine lv_iload hx hb dX3_ownerOf_111 (lv_at hl 7 rfl) ?_
                  obtain rfl := Option.some.inj h
                  exact b_iret hQ hx hb hr hlk hw rfl dX3_ownerOf_113
  exact hL15 g_fuel (0 : Int32) _ _ _ hw (lv_sub hl [2, 3, 4, 5, 1, 0] rfl) h
