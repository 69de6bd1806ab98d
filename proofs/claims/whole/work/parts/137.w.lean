set_option maxRecDepth 100000 in
set_option maxHeartbeats 4000000 in
theorem c_X10_mixSprite (l : Launch) (D : va_G) (g : Nat → ClassId) (a : Nat → Nat) (rnd : Int64) (S : Nat → Nat → Int32) (lefts : (Nat → Int32)) (tops : (Nat → Int32)) (cwidths : (Nat → Int32)) (cheights : (Nat → Int32)) (originals : (Nat → Int32)) (orients : (Nat → Int32)) (i1 : Int64) (i2 : Int32) (u : Int64) (h : f_X10_mixSprite S lefts tops cwidths cheights originals orients i1 i2 = some u) : b_Ct l yX10_mixSprite cX10_mixSprite 8 (some .long) 5 130 D g [.ref (a 0), .long i1, .int i2] [k_Atlas g a rnd, k_StO g a 4, k_Sheet g a 5 (S 0 0) (S 1) (S 2) (S 3) (S 4), k_Settings g a 10 (S 5 0) (S 5 1) (S 5 2) (S 5 3) (S 5 4) (S 5 5) (S 5 6) (S 5 7) (S 5 8) (S 5 9) (S 5 10) (S 5 11), k_Places g a 11 (S 6 0) (S 7) (S 8) (S 9) (S 10) (S 11), k_Catalog g a 30 lefts tops cwidths cheights originals orients, k_PkO g a 37 (a 4) (a 30)] [k_Atlas g a rnd, k_StO g a 4, k_Sheet g a 5 (S 0 0) (S 1) (S 2) (S 3) (S 4), k_Settings g a 10 (S 5 0) (S 5 1) (S 5 2) (S 5 3) (S 5 4) (S 5 5) (S 5 6) (S 5 7) (S 5 8) (S 5 9) (S 5 10) (S 5 11), k_Places g a 11 (S 6 0) (S 7) (S 8) (S 9) (S 10) (S 11), k_Catalog g a 30 lefts tops cwidths cheights originals orients, k_PkO g a 37 (a 4) (a 30)] (some (.long u)) := by
  refine b_start RX10 (by decide) rfl (Nat.le_of_ble_eq_true rfl) rfl ?_
  intro p e s m args below meth c A ls Q hQ hx hb hr hlk hml hown hT hK hA hw hl
  have hl : lv_has ls 8 [(0, .ref (a 0)), (1, .long i1), (3, .int i2)] := hl
  unfold f_X10_mixSprite at h
  refine lv_lload_n hx hb dX10_mixSprite_0 rfl (lv_at hl 1 rfl) ?_
  refine lv_aload_n hx hb dX10_mixSprite_1 rfl (lv_at hl 0 rfl) ?_
  refine lv_iload_n hx hb dX10_mixSprite_2 rfl (lv_at hl 2 rfl) ?_
  obtain ⟨r1, er1, h⟩ := g_cl_some h
  refine b_callV hx hb hml hown hT hK hA hw mk_X10_425 (c_X10_width l D g a rnd S i2 r1 er1) [0, 1, 2] [3, 4, 5, 6] rfl (by decide) 0 0 rfl rfl rfl rfl hl.1 [.long i1] rfl (Nat.le_of_ble_eq_true rfl) ⟨Nat.le_of_ble_eq_true rfl, Nat.le_of_ble_eq_true rfl⟩ ⟨Nat.zero_le _, Nat.zero_le _⟩ dX10_mixSprite_3 (wb' := [k_Atlas g a rnd, k_StO g a 4, k_Sheet g a 5 (S 0 0) (S 1) (S 2) (S 3) (S 4), k_Settings g a 10 (S 5 0) (S 5 1) (S 5 2) (S 5 3) (S 5 4) (S 5 5) (S 5 6) (S 5 7) (S 5 8) (S 5 9) (S 5 10) (S 5 11), k_Places g a 11 (S 6 0) (S 7) (S 8) (S 9) (S 10) (S 11), k_Catalog g a 30 lefts tops cwidths cheights originals orients, k_PkO g a 37 (a 4) (a 30)]) rfl (b_e1 rfl (b_e1 rfl (b_e1 rfl (b_e1 rfl b_e0)))) 7 rfl (by decide) (st2 := [.int r1, .long i1]) rfl (fun H locs hw => ?_)
  refine lv_i2l hx hb dX10_mixSprite_6 rfl ?_
  refine b_callS hx hb hml hown hT hK hA hw mk_X10_367 (c_X10_mix l D g i1 (r1).toInt64) [] [0, 1, 2, 3, 4, 5, 6] rfl (by decide) rfl hl.1 [] rfl (Nat.le_of_ble_eq_true rfl) ⟨Nat.le_of_ble_eq_true rfl, Nat.le_of_ble_eq_true rfl⟩ ⟨Nat.zero_le _, Nat.zero_le _⟩ dX10_mixSprite_7 (wb' := [k_Atlas g a rnd, k_StO g a 4, k_Sheet g a 5 (S 0 0) (S 1) (S 2) (S 3) (S 4), k_Settings g a 10 (S 5 0) (S 5 1) (S 5 2) (S 5 3) (S 5 4) (S 5 5) (S 5 6) (S 5 7) (S 5 8) (S 5 9) (S 5 10) (S 5 11), k_Places g a 11 (S 6 0) (S 7) (S 8) (S 9) (S 10) (S 11), k_Catalog g a 30 lefts tops cwidths cheights originals orients, k_PkO g a 37 (a 4) (a 30)]) rfl (b_e1 rfl (b_e1 rfl (b_e1 rfl (b_e1 rfl (b_e1 rfl (b_e1 rfl (b_e1 rfl b_e0))))))) 7 rfl (by decide) (st2 := [.long (f_X10_mix i1 (r1).toInt64)]) rfl (fun H locs hw => ?_)
  refine lv_aload_n hx hb dX10_mixSprite_10 rfl (lv_at hl 0 rfl) ?_
  refine lv_iload_n hx hb dX10_mixSprite_11 rfl (lv_at hl 2 rfl) ?_
  obtain ⟨r2, er2, h⟩ := g_cl_some h
  refine b_callV hx hb hml hown hT hK hA hw mk_X10_428 (c_X10_height l D g a rnd S i2 r2 er2) [0, 1, 2] [3, 4, 5, 6] rfl (by decide) 0 0 rfl rfl rfl rfl hl.1 [.long (f_X10_mix i1 (r1).toInt64)] rfl (Nat.le_of_ble_eq_true rfl) ⟨Nat.le_of_ble_eq_true rfl, Nat.le_of_ble_eq_true rfl⟩ ⟨Nat.zero_le _, Nat.zero_le _⟩ dX10_mixSprite_12 (wb' := [k_Atlas g a rnd, k_StO g a 4, k_Sheet g a 5 (S 0 0) (S 1) (S 2) (S 3) (S 4), k_Settings g a 10 (S 5 0) (S 5 1) (S 5 2) (S 5 3) (S 5 4) (S 5 5) (S 5 6) (S 5 7) (S 5 8) (S 5 9) (S 5 10) (S 5 11), k_Places g a 11 (S 6 0) (S 7) (S 8) (S 9) (S 10) (S 11), k_Catalog g a 30 lefts tops cwidths cheights originals orients, k_PkO g a 37 (a 4) (a 30)]) rfl (b_e1 rfl (b_e1 rfl (b_e1 rfl (b_e1 rfl b_e0)))) 7 rfl (by decide) (st2 := [.int r2, .long (f_X10_mix i1 (r1).toInt64)]) rfl (fun H locs hw => ?_)
  refine lv_i2l hx hb dX10_mixSprite_15 rfl ?_
  refine b_callS hx hb hml hown hT hK hA hw mk_X10_367 (c_X10_mix l D g (f_X10_mix i1 (r1).toInt64) (r2).toInt64) [] [0, 1, 2, 3, 4, 5, 6] rfl (by decide) rfl hl.1 [] rfl (Nat.le_of_ble_eq_true rfl) ⟨Nat.le_of_ble_eq_true rfl, Nat.le_of_ble_eq_true rfl⟩ ⟨Nat.zero_le _, Nat.zero_le _⟩ dX10_mixSprite_16 (wb' := [k_Atlas g a rnd, k_StO g a 4, k_Sheet g a 5 (S 0 0) (S 1) (S 2) (S 3) (S 4), k_Settings g a 10 (S 5 0) (S 5 1) (S 5 2) (S 5 3) (S 5 4) (S 5 5) (S 5 6) (S 5 7) (S 5 8) (S 5 9) (S 5 10) (S 5 11), k_Places g a 11 (S 6 0) (S 7) (S 8) (S 9) (S 10) (S 11), k_Catalog g a 30 lefts tops cwidths cheights originals orients, k_PkO g a 37 (a 4) (a 30)]) rfl (b_e1 rfl (b_e1 rfl (b_e1 rfl (b_e1 rfl (b_e1 rfl (b_e1 rfl (b_e1 rfl b_e0))))))) 7 rfl (by decide) (st2 := [.long (f_X10_mix (f_X10_mix i1 (r1).toInt64) (r2).toInt64)]) rfl (fun H locs hw => ?_)
  obtain ⟨y3, ey3, h⟩ := g_bd_nm h
  refine g_topl ey3 ?_
  refine lv_lstore (lv' := [(4, .long y3), (0, .ref (a 0)), (1, .long i1), (3, .int i2)]) hx hb dX10_mixSprite_19 hl (by decide) rfl (fun ls hl => ?_)
  refine lv_iconst (v := 0) hx hb dX10_mixSprite_21 (by decide) ?_
  refine lv_istore (lv' := [(6, .int (0 : Int32)), (4, .long y3), (0, .ref (a 0)), (1, .long i1), (3, .int i2)]) hx hb dX10_mixSprite_22 hl (by decide) rfl (fun ls hl => ?_)
  obtain ⟨k76_4, ek76_4, h⟩ := g_jn_nm h
  have hk76_4 : ∀ (y4 : Int64) (H : Heap) (locs : List Loc) (ls : Array Slot), b_Wd D A s.heap H locs [k_Atlas g a rnd, k_StO g a 4, k_Sheet g a 5 (S 0 0) (S 1) (S 2) (S 3) (S 4), k_Settings g a 10 (S 5 0) (S 5 1) (S 5 2) (S 5 3) (S 5 4) (S 5 5) (S 5 6) (S 5 7) (S 5 8) (S 5 9) (S 5 10) (S 5 11), k_Places g a 11 (S 6 0) (S 7) (S 8) (S 9) (S 10) (S 11), k_Catalog g a 30 lefts tops cwidths cheights originals orients, k_PkO g a 37 (a 4) (a 30)] → lv_has ls 8 [(0, .ref (a 0)), (3, .int i2), (4, .long y4)] → k76_4 y4 = some u → W p l e (g_rm 5 130) s m args below meth c H locs 0 0 Q (F0 m 76 ls []) := by
    intro y4 H locs ls hw hl h
    subst ek76_4
    dsimp only at h
    refine lv_lload hx hb dX10_mixSprite_76 (lv_at hl 2 rfl) ?_
    refine lv_aload_n hx hb dX10_mixSprite_78 rfl (lv_at hl 0 rfl) ?_
    refine lv_iload_n hx hb dX10_mixSprite_79 rfl (lv_at hl 1 rfl) ?_
    obtain ⟨r6, er6, h⟩ := g_cl_some h
    refine b_callV hx hb hml hown hT hK hA hw mk_X10_434 (c_X10_groupOf l D g a rnd S i2 r6 er6) [0, 1, 2] [3, 4, 5, 6] rfl (by decide) 0 0 rfl rfl rfl rfl hl.1 [.long y4] rfl (Nat.le_of_ble_eq_true rfl) ⟨Nat.le_of_ble_eq_true rfl, Nat.le_of_ble_eq_true rfl⟩ ⟨Nat.zero_le _, Nat.zero_le _⟩ dX10_mixSprite_80 (wb' := [k_Atlas g a rnd, k_StO g a 4, k_Sheet g a 5 (S 0 0) (S 1) (S 2) (S 3) (S 4), k_Settings g a 10 (S 5 0) (S 5 1) (S 5 2) (S 5 3) (S 5 4) (S 5 5) (S 5 6) (S 5 7) (S 5 8) (S 5 9) (S 5 10) (S 5 11), k_Places g a 11 (S 6 0) (S 7) (S 8) (S 9) (S 10) (S 11), k_Catalog g a 30 lefts tops cwidths cheights originals orients, k_PkO g a 37 (a 4) (a 30)]) rfl (b_e1 rfl (b_e1 rfl (b_e1 rfl (b_e1 rfl b_e0)))) 7 rfl (by decide) (st2 := [.int r6, .long y4]) rfl (fun H locs hw => ?_)
    refine lv_i2l hx hb dX10_mixSprite_83 rfl ?_
    refine b_callS hx hb hml hown hT hK hA hw mk_X10_367 (c_X10_mix l D g y4 (r6).toInt64) [] [0, 1, 2, 3, 4, 5, 6] rfl (by decide) rfl hl.1 [] rfl (Nat.le_of_ble_eq_true rfl) ⟨Nat.le_of_ble_eq_true rfl, Nat.le_of_ble_eq_true rfl⟩ ⟨Nat.zero_le _, Nat.zero_le _⟩ dX10_mixSprite_84 (wb' := [k_Atlas g a rnd, k_StO g a 4, k_Sheet g a 5 (S 0 0) (S 1) (S 2) (S 3) (S 4), k_Settings g a 10 (S 5 0) (S 5 1) (S 5 2) (S 5 3) (S 5 4) (S 5 5) (S 5 6) (S 5 7) (S 5 8) (S 5 9) (S 5 10) (S 5 11), k_Places g a 11 (S 6 0) (S 7) (S 8) (S 9) (S 10) (S 11), k_Catalog g a 30 lefts tops cwidths cheights originals orients, k_PkO g a 37 (a 4) (a 30)]) rfl (b_e1 rfl (b_e1 rfl (b_e1 rfl (b_e1 rfl (b_e1 rfl (b_e1 rfl (b_e1 rfl b_e0))))))) 7 rfl (by decide) (st2 := [.long (f_X10_mix y4 (r6).toInt64)]) rfl (fun H locs hw => ?_)
    obtain ⟨y7, ey7, h⟩ := g_bd_nm h
    refine g_topl ey7 ?_
    refine lv_lstore (lv' := [(4, .long y7), (0, .ref (a 0)), (3, .int i2)]) hx hb dX10_mixSprite_87 hl (by decide) rfl (fun ls hl => ?_)
    refine lv_lload hx hb dX10_mixSprite_89 (lv_at hl 0 rfl) ?_
    refine lv_aload_n hx hb dX10_mixSprite_91 rfl (lv_at hl 1 rfl) ?_
    refine lv_iload_n hx hb dX10_mixSprite_92 rfl (lv_at hl 2 rfl) ?_
    obtain ⟨r8, er8, h⟩ := g_cl_some h
    refine b_callV hx hb hml hown hT hK hA hw mk_X10_437 (c_X10_trimLeft l D g a rnd S lefts tops cwidths cheights originals orients i2 r8 er8) [0, 1, 2, 5] [3, 4, 6] rfl (by decide) 0 0 rfl rfl rfl rfl hl.1 [.long y7] rfl (Nat.le_of_ble_eq_true rfl) ⟨Nat.le_of_ble_eq_true rfl, Nat.le_of_ble_eq_true rfl⟩ ⟨Nat.zero_le _, Nat.zero_le _⟩ dX10_mixSprite_93 (wb' := [k_Atlas g a rnd, k_StO g a 4, k_Sheet g a 5 (S 0 0) (S 1) (S 2) (S 3) (S 4), k_Settings g a 10 (S 5 0) (S 5 1) (S 5 2) (S 5 3) (S 5 4) (S 5 5) (S 5 6) (S 5 7) (S 5 8) (S 5 9) (S 5 10) (S 5 11), k_Places g a 11 (S 6 0) (S 7) (S 8) (S 9) (S 10) (S 11), k_Catalog g a 30 lefts tops cwidths cheights originals orients, k_PkO g a 37 (a 4) (a 30)]) rfl (b_e1 rfl (b_e1 rfl (b_e1 rfl b_e0))) 7 rfl (by decide) (st2 := [.int r8, .long y7]) rfl (fun H locs hw => ?_)
    refine lv_i2l hx hb dX10_mixSprite_96 rfl ?_
    refine b_callS hx hb hml hown hT hK hA hw mk_X10_367 (c_X10_mix l D g y7 (r8).toInt64) [] [0, 1, 2, 3, 4, 5, 6] rfl (by decide) rfl hl.1 [] rfl (Nat.le_of_ble_eq_true rfl) ⟨Nat.le_of_ble_eq_true rfl, Nat.le_of_ble_eq_true rfl⟩ ⟨Nat.zero_le _, Nat.zero_le _⟩ dX10_mixSprite_97 (wb' := [k_Atlas g a rnd, k_StO g a 4, k_Sheet g a 5 (S 0 0) (S 1) (S 2) (S 3) (S 4), k_Settings g a 10 (S 5 0) (S 5 1) (S 5 2) (S 5 3) (S 5 4) (S 5 5) (S 5 6) (S 5 7) (S 5 8) (S 5 9) (S 5 10) (S 5 11), k_Places g a 11 (S 6 0) (S 7) (S 8) (S 9) (S 10) (S 11), k_Catalog g a 30 lefts tops cwidths cheights originals orients, k_PkO g a 37 (a 4) (a 30)]) rfl (b_e1 rfl (b_e1 rfl (b_e1 rfl (b_e1 rfl (b_e1 rfl (b_e1 rfl (b_e1 rfl b_e0))))))) 7 rfl (by decide) (st2 := [.long (f_X10_mix y7 (r8).toInt64)]) rfl (fun H locs hw => ?_)
    refine lv_aload_n hx hb dX10_mixSprite_100 rfl (lv_at hl 1 rfl) ?_
    refine lv_iload_n hx hb dX10_mixSprite_101 rfl (lv_at hl 2 rfl) ?_
    obtain ⟨r9, er9, h⟩ := g_cl_some h
    refine b_callV hx hb hml hown hT hK hA hw mk_X10_440 (c_X10_trimTop l D g a rnd S lefts tops cwidths cheights originals orients i2 r9 er9) [0, 1, 2, 5] [3, 4, 6] rfl (by decide) 0 0 rfl rfl rfl rfl hl.1 [.long (f_X10_mix y7 (r8).toInt64)] rfl (Nat.le_of_ble_eq_true rfl) ⟨Nat.le_of_ble_eq_true rfl, Nat.le_of_ble_eq_true rfl⟩ ⟨Nat.zero_le _, Nat.zero_le _⟩ dX10_mixSprite_102 (wb' := [k_Atlas g a rnd, k_StO g a 4, k_Sheet g a 5 (S 0 0) (S 1) (S 2) (S 3) (S 4), k_Settings g a 10 (S 5 0) (S 5 1) (S 5 2) (S 5 3) (S 5 4) (S 5 5) (S 5 6) (S 5 7) (S 5 8) (S 5 9) (S 5 10) (S 5 11), k_Places g a 11 (S 6 0) (S 7) (S 8) (S 9) (S 10) (S 11), k_Catalog g a 30 lefts tops cwidths cheights originals orients, k_PkO g a 37 (a 4) (a 30)]) rfl (b_e1 rfl (b_e1 rfl (b_e1 rfl b_e0))) 7 rfl (by decide) (st2 := [.int r9, .long (f_X10_mix y7 (r8).toInt64)]) rfl (fun H locs hw => ?_)
    refine lv_i2l hx hb dX10_mixSprite_105 rfl ?_
    refine b_callS hx hb hml hown hT hK hA hw mk_X10_367 (c_X10_mix l D g (f_X10_mix y7 (r8).toInt64) (r9).toInt64) [] [0, 1, 2, 3, 4, 5, 6] rfl (by decide) rfl hl.1 [] rfl (Nat.le_of_ble_eq_true rfl) ⟨Nat.le_of_ble_eq_true rfl, Nat.le_of_ble_eq_true rfl⟩ ⟨Nat.zero_le _, Nat.zero_le _⟩ dX10_mixSprite_106 (wb' := [k_Atlas g a rnd, k_StO g a 4, k_Sheet g a 5 (S 0 0) (S 1) (S 2) (S 3) (S 4), k_Settings g a 10 (S 5 0) (S 5 1) (S 5 2) (S 5 3) (S 5 4) (S 5 5) (S 5 6) (S 5 7) (S 5 8) (S 5 9) (S 5 10) (S 5 11), k_Places g a 11 (S 6 0) (S 7) (S 8) (S 9) (S 10) (S 11), k_Catalog g a 30 lefts tops cwidths cheights originals orients, k_PkO g a 37 (a 4) (a 30)]) rfl (b_e1 rfl (b_e1 rfl (b_e1 rfl (b_e1 rfl (b_e1 rfl (b_e1 rfl (b_e1 rfl b_e0))))))) 7 rfl (by decide) (st2 := [.long (f_X10_mix (f_X10_mix y7 (r8).toInt64) (r9).toInt64)]) rfl (fun H locs hw => ?_)
    obtain ⟨y10, ey10, h⟩ := g_bd_nm h
    refine g_topl ey10 ?_
    refine lv_lstore (lv' := [(4, .long y10), (0, .ref (a 0)), (3, .int i2)]) hx hb dX10_mixSprite_109 hl (by decide) rfl (fun ls hl => ?_)
    refine lv_lload hx hb dX10_mixSprite_111 (lv_at hl 0 rfl) ?_
    refine lv_aload_n hx hb dX10_mixSprite_113 rfl (lv_at hl 1 rfl) ?_
    refine lv_iload_n hx hb dX10_mixSprite_114 rfl (lv_at hl 2 rfl) ?_
    obtain ⟨r11, er11, h⟩ := g_cl_some h
    refine b_callV hx hb hml hown hT hK hA hw mk_X10_443 (c_X10_trimWidth l D g a rnd S lefts tops cwidths cheights originals orients i2 r11 er11) [0, 1, 2, 5] [3, 4, 6] rfl (by decide) 0 0 rfl rfl rfl rfl hl.1 [.long y10] rfl (Nat.le_of_ble_eq_true rfl) ⟨Nat.le_of_ble_eq_true rfl, Nat.le_of_ble_eq_true rfl⟩ ⟨Nat.zero_le _, Nat.zero_le _⟩ dX10_mixSprite_115 (wb' := [k_Atlas g a rnd, k_StO g a 4, k_Sheet g a 5 (S 0 0) (S 1) (S 2) (S 3) (S 4), k_Settings g a 10 (S 5 0) (S 5 1) (S 5 2) (S 5 3) (S 5 4) (S 5 5) (S 5 6) (S 5 7) (S 5 8) (S 5 9) (S 5 10) (S 5 11), k_Places g a 11 (S 6 0) (S 7) (S 8) (S 9) (S 10) (S 11), k_Catalog g a 30 lefts tops cwidths cheights originals orients, k_PkO g a 37 (a 4) (a 30)]) rfl (b_e1 rfl (b_e1 rfl (b_e1 rfl b_e0))) 7 rfl (by decide) (st2 := [.int r11, .long y10]) rfl (fun H locs hw => ?_)
    refine lv_i2l hx hb dX10_mixSprite_118 rfl ?_
    refine b_callS hx hb hml hown hT hK hA hw mk_X10_367 (c_X10_mix l D g y10 (r11).toInt64) [] [0, 1, 2, 3, 4, 5, 6] rfl (by decide) rfl hl.1 [] rfl (Nat.le_of_ble_eq_true rfl) ⟨Nat.le_of_ble_eq_true rfl, Nat.le_of_ble_eq_true rfl⟩ ⟨Nat.zero_le _, Nat.zero_le _⟩ dX10_mixSprite_119 (wb' := [k_Atlas g a rnd, k_StO g a 4, k_Sheet g a 5 (S 0 0) (S 1) (S 2) (S 3) (S 4), k_Settings g a 10 (S 5 0) (S 5 1) (S 5 2) (S 5 3) (S 5 4) (S 5 5) (S 5 6) (S 5 7) (S 5 8) (S 5 9) (S 5 10) (S 5 11), k_Places g a 11 (S 6 0) (S 7) (S 8) (S 9) (S 10) (S 11), k_Catalog g a 30 lefts tops cwidths cheights originals orients, k_PkO g a 37 (a 4) (a 30)]) rfl (b_e1 rfl (b_e1 rfl (b_e1 rfl (b_e1 rfl (b_e1 rfl (b_e1 rfl (b_e1 rfl b_e0))))))) 7 rfl (by decide) (st2 := [.long (f_X10_mix y10 (r11).toInt64)]) rfl (fun H locs hw => ?_)
    refine lv_aload_n hx hb dX10_mixSprite_122 rfl (lv_at hl 1 rfl) ?_
    refine lv_iload_n hx hb dX10_mixSprite_123 rfl (lv_at hl 2 rfl) ?_
    obtain ⟨r12, er12, h⟩ := g_cl_some h
    refine b_callV hx hb hml hown hT hK hA hw mk_X10_446 (c_X10_trimHeight l D g a rnd S lefts tops cwidths cheights originals orients i2 r12 er12) [0, 1, 2, 5] [3, 4, 6] rfl (by decide) 0 0 rfl rfl rfl rfl hl.1 [.long (f_X10_mix y10 (r11).toInt64)] rfl (Nat.le_of_ble_eq_true rfl) ⟨Nat.le_of_ble_eq_true rfl, Nat.le_of_ble_eq_true rfl⟩ ⟨Nat.zero_le _, Nat.zero_le _⟩ dX10_mixSprite_124 (wb' := [k_Atlas g a rnd, k_StO g a 4, k_Sheet g a 5 (S 0 0) (S 1) (S 2) (S 3) (S 4), k_Settings g a 10 (S 5 0) (S 5 1) (S 5 2) (S 5 3) (S 5 4) (S 5 5) (S 5 6) (S 5 7) (S 5 8) (S 5 9) (S 5 10) (S 5 11), k_Places g a 11 (S 6 0) (S 7) (S 8) (S 9) (S 10) (S 11), k_Catalog g a 30 lefts tops cwidths cheights originals orients, k_PkO g a 37 (a 4) (a 30)]) rfl (b_e1 rfl (b_e1 rfl (b_e1 rfl b_e0))) 7 rfl (by decide) (st2 := [.int r12, .long (f_X10_mix y10 (r11).toInt64)]) rfl (fun H locs hw => ?_)
    refine lv_i2l hx hb dX10_mixSprite_127 rfl ?_
    refine b_callS hx hb hml hown hT hK hA hw mk_X10_367 (c_X10_mix l D g (f_X10_mix y10 (r11).toInt64) (r12).toInt64) [] [0, 1, 2, 3, 4, 5, 6] rfl (by decide) rfl hl.1 [] rfl (Nat.le_of_ble_eq_true rfl) ⟨Nat.le_of_ble_eq_true rfl, Nat.le_of_ble_eq_true rfl⟩ ⟨Nat.zero_le _, Nat.zero_le _⟩ dX10_mixSprite_128 (wb' := [k_Atlas g a rnd, k_StO g a 4, k_Sheet g a 5 (S 0 0) (S 1) (S 2) (S 3) (S 4), k_Settings g a 10 (S 5 0) (S 5 1) (S 5 2) (S 5 3) (S 5 4) (S 5 5) (S 5 6) (S 5 7) (S 5 8) (S 5 9) (S 5 10) (S 5 11), k_Places g a 11 (S 6 0) (S 7) (S 8) (S 9) (S 10) (S 11), k_Catalog g a 30 lefts tops cwidths cheights originals orients, k_PkO g a 37 (a 4) (a 30)]) rfl (b_e1 rfl (b_e1 rfl (b_e1 rfl (b_e1 rfl (b_e1 rfl (b_e1 rfl (b_e1 rfl b_e0))))))) 7 rfl (by decide) (st2 := [.long (f_X10_mix (f_X10_mix y10 (r11).toInt64) (r12).toInt64)]) rfl (fun H locs hw => ?_)
    obtain ⟨y13, ey13, h⟩ := g_bd_nm h
    refine g_topl ey13 ?_
    refine lv_lstore (lv' := [(4, .long y13), (0, .ref (a 0)), (3, .int i2)]) hx hb dX10_mixSprite_131 hl (by decide) rfl (fun ls hl => ?_)
    refine lv_lload hx hb dX10_mixSprite_133 (lv_at hl 0 rfl) ?_
    refine lv_aload_n hx hb dX10_mixSprite_135 rfl (lv_at hl 1 rfl) ?_
    refine lv_iload_n hx hb dX10_mixSprite_136 rfl (lv_at hl 2 rfl) ?_
    obtain ⟨r14, er14, h⟩ := g_cl_some h
    refine b_callV hx hb hml hown hT hK hA hw mk_X10_449 (c_X10_originalOf l D g a rnd S lefts tops cwidths cheights originals orients i2 r14 er14) [0, 1, 2, 5] [3, 4, 6] rfl (by decide) 0 0 rfl rfl rfl rfl hl.1 [.long y13] rfl (Nat.le_of_ble_eq_true rfl) ⟨Nat.le_of_ble_eq_true rfl, Nat.le_of_ble_eq_true rfl⟩ ⟨Nat.zero_le _, Nat.zero_le _⟩ dX10_mixSprite_137 (wb' := [k_Atlas g a rnd, k_StO g a 4, k_Sheet g a 5 (S 0 0) (S 1) (S 2) (S 3) (S 4), k_Settings g a 10 (S 5 0) (S 5 1) (S 5 2) (S 5 3) (S 5 4) (S 5 5) (S 5 6) (S 5 7) (S 5 8) (S 5 9) (S 5 10) (S 5 11), k_Places g a 11 (S 6 0) (S 7) (S 8) (S 9) (S 10) (S 11), k_Catalog g a 30 lefts tops cwidths cheights originals orients, k_PkO g a 37 (a 4) (a 30)]) rfl (b_e1 rfl (b_e1 rfl (b_e1 rfl b_e0))) 7 rfl (by decide) (st2 := [.int r14, .long y13]) rfl (fun H locs hw => ?_)
    refine lv_i2l hx hb dX10_mixSprite_140 rfl ?_
    refine b_callS hx hb hml hown hT hK hA hw mk_X10_367 (c_X10_mix l D g y13 (r14).toInt64) [] [0, 1, 2, 3, 4, 5, 6] rfl (by decide) rfl hl.1 [] rfl (Nat.le_of_ble_eq_true rfl) ⟨Nat.le_of_ble_eq_true rfl, Nat.le_of_ble_eq_true rfl⟩ ⟨Nat.zero_le _, Nat.zero_le _⟩ dX10_mixSprite_141 (wb' := [k_Atlas g a rnd, k_StO g a 4, k_Sheet g a 5 (S 0 0) (S 1) (S 2) (S 3) (S 4), k_Settings g a 10 (S 5 0) (S 5 1) (S 5 2) (S 5 3) (S 5 4) (S 5 5) (S 5 6) (S 5 7) (S 5 8) (S 5 9) (S 5 10) (S 5 11), k_Places g a 11 (S 6 0) (S 7) (S 8) (S 9) (S 10) (S 11), k_Catalog g a 30 lefts tops cwidths cheights originals orients, k_PkO g a 37 (a 4) (a 30)]) rfl (b_e1 rfl (b_e1 rfl (b_e1 rfl (b_e1 rfl (b_e1 rfl (b_e1 rfl (b_e1 rfl b_e0))))))) 7 rfl (by decide) (st2 := [.long (f_X10_mix y13 (r14).toInt64)]) rfl (fun H locs hw => ?_)
    refine lv_aload_n hx hb dX10_mixSprite_144 rfl (lv_at hl 1 rfl) ?_
    refine lv_iload_n hx hb dX10_mixSprite_145 rfl (lv_at hl 2 rfl) ?_
    obtain ⟨r15, er15, h⟩ := g_cl_some h
    refine b_callV hx hb hml hown hT hK hA hw mk_X10_452 (c_X10_orientationOf l D g a rnd S lefts tops cwidths cheights originals orients i2 r15 er15) [0, 1, 2, 5] [3, 4, 6] rfl (by decide) 0 0 rfl rfl rfl rfl hl.1 [.long (f_X10_mix y13 (r14).toInt64)] rfl (Nat.le_of_ble_eq_true rfl) ⟨Nat.le_of_ble_eq_true rfl, Nat.le_of_ble_eq_true rfl⟩ ⟨Nat.zero_le _, Nat.zero_le _⟩ dX10_mixSprite_146 (wb' := [k_Atlas g a rnd, k_StO g a 4, k_Sheet g a 5 (S 0 0) (S 1) (S 2) (S 3) (S 4), k_Settings g a 10 (S 5 0) (S 5 1) (S 5 2) (S 5 3) (S 5 4) (S 5 5) (S 5 6) (S 5 7) (S 5 8) (S 5 9) (S 5 10) (S 5 11), k_Places g a 11 (S 6 0) (S 7) (S 8) (S 9) (S 10) (S 11), k_Catalog g a 30 lefts tops cwidths cheights originals orients, k_PkO g a 37 (a 4) (a 30)]) rfl (b_e1 rfl (b_e1 rfl (b_e1 rfl b_e0))) 7 rfl (by decide) (st2 := [.int r15, .long (f_X10_mix y13 (r14).toInt64)]) rfl (fun H locs hw => ?_)
    refine lv_i2l hx hb dX10_mixSprite_149 rfl ?_
    refine b_callS hx hb hml hown hT hK hA hw mk_X10_367 (c_X10_mix l D g (f_X10_mix y13 (r14).toInt64) (r15).toInt64) [] [0, 1, 2, 3, 4, 5, 6] rfl (by decide) rfl hl.1 [] rfl (Nat.le_of_ble_eq_true rfl) ⟨Nat.le_of_ble_eq_true rfl, Nat.le_of_ble_eq_true rfl⟩ ⟨Nat.zero_le _, Nat.zero_le _⟩ dX10_mixSprite_150 (wb' := [k_Atlas g a rnd, k_StO g a 4, k_Sheet g a 5 (S 0 0) (S 1) (S 2) (S 3) (S 4), k_Settings g a 10 (S 5 0) (S 5 1) (S 5 2) (S 5 3) (S 5 4) (S 5 5) (S 5 6) (S 5 7) (S 5 8) (S 5 9) (S 5 10) (S 5 11), k_Places g a 11 (S 6 0) (S 7) (S 8) (S 9) (S 10) (S 11), k_Catalog g a 30 lefts tops cwidths cheights originals orients, k_PkO g a 37 (a 4) (a 30)]) rfl (b_e1 rfl (b_e1 rfl (b_e1 rfl (b_e1 rfl (b_e1 rfl (b_e1 rfl (b_e1 rfl b_e0))))))) 7 rfl (by decide) (st2 := [.long (f_X10_mix (f_X10_mix y13 (r14).toInt64) (r15).toInt64)]) rfl (fun H locs hw => ?_)
    obtain ⟨y16, ey16, h⟩ := g_bd_nm h
    refine g_topl ey16 ?_
    refine lv_lstore (lv' := [(4, .long y16), (0, .ref (a 0)), (3, .int i2)]) hx hb dX10_mixSprite_153 hl (by decide) rfl (fun ls hl => ?_)
    refine lv_lload hx hb dX10_mixSprite_155 (lv_at hl 0 rfl) ?_
    refine lv_aload_n hx hb dX10_mixSprite_157 rfl (lv_at hl 1 rfl) ?_
    refine lv_iload_n hx hb dX10_mixSprite_158 rfl (lv_at hl 2 rfl) ?_
    obtain ⟨r17, er17, h⟩ := g_cl_some h
    refine b_callV hx hb hml hown hT hK hA hw mk_X10_407 (c_X10_pageOf l D g a rnd S lefts tops cwidths cheights originals orients i2 r17 er17) [0, 1, 2, 4, 5] [3, 6] rfl (by decide) 0 0 rfl rfl rfl rfl hl.1 [.long y16] rfl (Nat.le_of_ble_eq_true rfl) ⟨Nat.le_of_ble_eq_true rfl, Nat.le_of_ble_eq_true rfl⟩ ⟨Nat.zero_le _, Nat.zero_le _⟩ dX10_mixSprite_159 (wb' := [k_Atlas g a rnd, k_StO g a 4, k_Sheet g a 5 (S 0 0) (S 1) (S 2) (S 3) (S 4), k_Settings g a 10 (S 5 0) (S 5 1) (S 5 2) (S 5 3) (S 5 4) (S 5 5) (S 5 6) (S 5 7) (S 5 8) (S 5 9) (S 5 10) (S 5 11), k_Places g a 11 (S 6 0) (S 7) (S 8) (S 9) (S 10) (S 11), k_Catalog g a 30 lefts tops cwidths cheights originals orients, k_PkO g a 37 (a 4) (a 30)]) rfl (b_e1 rfl (b_e1 rfl b_e0)) 7 rfl (by decide) (st2 := [.int r17, .long y16]) rfl (fun H locs hw => ?_)
    refine lv_i2l hx hb dX10_mixSprite_162 rfl ?_
    refine b_callS hx hb hml hown hT hK hA hw mk_X10_367 (c_X10_mix l D g y16 (r17).toInt64) [] [0, 1, 2, 3, 4, 5, 6] rfl (by decide) rfl hl.1 [] rfl (Nat.le_of_ble_eq_true rfl) ⟨Nat.le_of_ble_eq_true rfl, Nat.le_of_ble_eq_true rfl⟩ ⟨Nat.zero_le _, Nat.zero_le _⟩ dX10_mixSprite_163 (wb' := [k_Atlas g a rnd, k_StO g a 4, k_Sheet g a 5 (S 0 0) (S 1) (S 2) (S 3) (S 4), k_Settings g a 10 (S 5 0) (S 5 1) (S 5 2) (S 5 3) (S 5 4) (S 5 5) (S 5 6) (S 5 7) (S 5 8) (S 5 9) (S 5 10) (S 5 11), k_Places g a 11 (S 6 0) (S 7) (S 8) (S 9) (S 10) (S 11), k_Catalog g a 30 lefts tops cwidths cheights originals orients, k_PkO g a 37 (a 4) (a 30)]) rfl (b_e1 rfl (b_e1 rfl (b_e1 rfl (b_e1 rfl (b_e1 rfl (b_e1 rfl (b_e1 rfl b_e0))))))) 7 rfl (by decide) (st2 := [.long (f_X10_mix y16 (r17).toInt64)]) rfl (fun H locs hw => ?_)
    refine lv_aload_n hx hb dX10_mixSprite_166 rfl (lv_at hl 1 rfl) ?_
    refine lv_iload_n hx hb dX10_mixSprite_167 rfl (lv_at hl 2 rfl) ?_
    obtain ⟨r18, er18, h⟩ := g_cl_some h
    refine b_callV hx hb hml hown hT hK hA hw mk_X10_412 (c_X10_xOf l D g a rnd S lefts tops cwidths cheights originals orients i2 r18 er18) [0, 1, 2, 3, 4, 5, 6] [] rfl (by decide) 0 0 rfl rfl rfl rfl hl.1 [.long (f_X10_mix y16 (r17).toInt64)] rfl (Nat.le_of_ble_eq_true rfl) ⟨Nat.le_of_ble_eq_true rfl, Nat.le_of_ble_eq_true rfl⟩ ⟨Nat.zero_le _, Nat.zero_le _⟩ dX10_mixSprite_168 (wb' := [k_Atlas g a rnd, k_StO g a 4, k_Sheet g a 5 (S 0 0) (S 1) (S 2) (S 3) (S 4), k_Settings g a 10 (S 5 0) (S 5 1) (S 5 2) (S 5 3) (S 5 4) (S 5 5) (S 5 6) (S 5 7) (S 5 8) (S 5 9) (S 5 10) (S 5 11), k_Places g a 11 (S 6 0) (S 7) (S 8) (S 9) (S 10) (S 11), k_Catalog g a 30 lefts tops cwidths cheights originals orients, k_PkO g a 37 (a 4) (a 30)]) rfl b_e0 7 rfl (by decide) (st2 := [.int r18, .long (f_X10_mix y16 (r17).toInt64)]) rfl (fun H locs hw => ?_)
    refine lv_i2l hx hb dX10_mixSprite_171 rfl ?_
    refine b_callS hx hb hml hown hT hK hA hw mk_X10_367 (c_X10_mix l D g (f_X10_mix y16 (r17).toInt64) (r18).toInt64) [] [0, 1, 2, 3, 4, 5, 6] rfl (by decide) rfl hl.1 [] rfl (Nat.le_of_ble_eq_true rfl) ⟨Nat.le_of_ble_eq_true rfl, Nat.le_of_ble_eq_true rfl⟩ ⟨Nat.zero_le _, Nat.zero_le _⟩ dX10_mixSprite_172 (wb' := [k_Atlas g a rnd, k_StO g a 4, k_Sheet g a 5 (S 0 0) (S 1) (S 2) (S 3) (S 4), k_Settings g a 10 (S 5 0) (S 5 1) (S 5 2) (S 5 3) (S 5 4) (S 5 5) (S 5 6) (S 5 7) (S 5 8) (S 5 9) (S 5 10) (S 5 11), k_Places g a 11 (S 6 0) (S 7) (S 8) (S 9) (S 10) (S 11), k_Catalog g a 30 lefts tops cwidths cheights originals orients, k_PkO g a 37 (a 4) (a 30)]) rfl (b_e1 rfl (b_e1 rfl (b_e1 rfl (b_e1 rfl (b_e1 rfl (b_e1 rfl (b_e1 rfl b_e0))))))) 7 rfl (by decide) (st2 := [.long (f_X10_mix (f_X10_mix y16 (r17).toInt64) (r18).toInt64)]) rfl (fun H locs hw => ?_)
    refine lv_aload_n hx hb dX10_mixSprite_175 rfl (lv_at hl 1 rfl) ?_
    refine lv_iload_n hx hb dX10_mixSprite_176 rfl (lv_at hl 2 rfl) ?_
    obtain ⟨r19, er19, h⟩ := g_cl_some h
    refine b_callV hx hb hml hown hT hK hA hw mk_X10_415 (c_X10_yOf l D g a rnd S lefts tops cwidths cheights originals orients i2 r19 er19) [0, 1, 2, 3, 4, 5, 6] [] rfl (by decide) 0 0 rfl rfl rfl rfl hl.1 [.long (f_X10_mix (f_X10_mix y16 (r17).toInt64) (r18).toInt64)] rfl (Nat.le_of_ble_eq_true rfl) ⟨Nat.le_of_ble_eq_true rfl, Nat.le_of_ble_eq_true rfl⟩ ⟨Nat.zero_le _, Nat.zero_le _⟩ dX10_mixSprite_177 (wb' := [k_Atlas g a rnd, k_StO g a 4, k_Sheet g a 5 (S 0 0) (S 1) (S 2) (S 3) (S 4), k_Settings g a 10 (S 5 0) (S 5 1) (S 5 2) (S 5 3) (S 5 4) (S 5 5) (S 5 6) (S 5 7) (S 5 8) (S 5 9) (S 5 10) (S 5 11), k_Places g a 11 (S 6 0) (S 7) (S 8) (S 9) (S 10) (S 11), k_Catalog g a 30 lefts tops cwidths cheights originals orients, k_PkO g a 37 (a 4) (a 30)]) rfl b_e0 7 rfl (by decide) (st2 := [.int r19, .long (f_X10_mix (f_X10_mix y16 (r17).toInt64) (r18).toInt64)]) rfl (fun H locs hw => ?_)
    refine lv_i2l hx hb dX10_mixSprite_180 rfl ?_
    refine b_callS hx hb hml hown hT hK hA hw mk_X10_367 (c_X10_mix l D g (f_X10_mix (f_X10_mix y16 (r17).toInt64) (r18).toInt64) (r19).toInt64) [] [0, 1, 2, 3, 4, 5, 6] rfl (by decide) rfl hl.1 [] rfl (Nat.le_of_ble_eq_true rfl) ⟨Nat.le_of_ble_eq_true rfl, Nat.le_of_ble_eq_true rfl⟩ ⟨Nat.zero_le _, Nat.zero_le _⟩ dX10_mixSprite_181 (wb' := [k_Atlas g a rnd, k_StO g a 4, k_Sheet g a 5 (S 0 0) (S 1) (S 2) (S 3) (S 4), k_Settings g a 10 (S 5 0) (S 5 1) (S 5 2) (S 5 3) (S 5 4) (S 5 5) (S 5 6) (S 5 7) (S 5 8) (S 5 9) (S 5 10) (S 5 11), k_Places g a 11 (S 6 0) (S 7) (S 8) (S 9) (S 10) (S 11), k_Catalog g a 30 lefts tops cwidths cheights originals orients, k_PkO g a 37 (a 4) (a 30)]) rfl (b_e1 rfl (b_e1 rfl (b_e1 rfl (b_e1 rfl (b_e1 rfl (b_e1 rfl (b_e1 rfl b_e0))))))) 7 rfl (by decide) (st2 := [.long (f_X10_mix (f_X10_mix (f_X10_mix y16 (r17).toInt64) (r18).toInt64) (r19).toInt64)]) rfl (fun H locs hw => ?_)
    obtain ⟨y20, ey20, h⟩ := g_bd_nm h
    refine g_topl ey20 ?_
    refine lv_lstore (lv' := [(4, .long y20), (0, .ref (a 0)), (3, .int i2)]) hx hb dX10_mixSprite_184 hl (by decide) rfl (fun ls hl => ?_)
    refine lv_lload hx hb dX10_mixSprite_186 (lv_at hl 0 rfl) ?_
    refine lv_aload_n hx hb dX10_mixSprite_188 rfl (lv_at hl 1 rfl) ?_
    refine lv_iload_n hx hb dX10_mixSprite_189 rfl (lv_at hl 2 rfl) ?_
    obtain ⟨r21, er21, h⟩ := g_cl_some h
    refine b_callV hx hb hml hown hT hK hA hw mk_X10_455 (c_X10_isTurned l D g a rnd S lefts tops cwidths cheights originals orients i2 r21 er21) [0, 1, 2, 4, 5] [3, 6] rfl (by decide) 0 0 rfl rfl rfl rfl hl.1 [.long y20] rfl (Nat.le_of_ble_eq_true rfl) ⟨Nat.le_of_ble_eq_true rfl, Nat.le_of_ble_eq_true rfl⟩ ⟨Nat.zero_le _, Nat.zero_le _⟩ dX10_mixSprite_190 (wb' := [k_Atlas g a rnd, k_StO g a 4, k_Sheet g a 5 (S 0 0) (S 1) (S 2) (S 3) (S 4), k_Settings g a 10 (S 5 0) (S 5 1) (S 5 2) (S 5 3) (S 5 4) (S 5 5) (S 5 6) (S 5 7) (S 5 8) (S 5 9) (S 5 10) (S 5 11), k_Places g a 11 (S 6 0) (S 7) (S 8) (S 9) (S 10) (S 11), k_Catalog g a 30 lefts tops cwidths cheights originals orients, k_PkO g a 37 (a 4) (a 30)]) rfl (b_e1 rfl (b_e1 rfl b_e0)) 7 rfl (by decide) (st2 := [.int r21, .long y20]) rfl (fun H locs hw => ?_)
    refine lv_i2l hx hb dX10_mixSprite_193 rfl ?_
    refine b_callS hx hb hml hown hT hK hA hw mk_X10_367 (c_X10_mix l D g y20 (r21).toInt64) [] [0, 1, 2, 3, 4, 5, 6] rfl (by decide) rfl hl.1 [] rfl (Nat.le_of_ble_eq_true rfl) ⟨Nat.le_of_ble_eq_true rfl, Nat.le_of_ble_eq_true rfl⟩ ⟨Nat.zero_le _, Nat.zero_le _⟩ dX10_mixSprite_194 (wb' := [k_Atlas g a rnd, k_StO g a 4, k_Sheet g a 5 (S 0 0) (S 1) (S 2) (S 3) (S 4), k_Settings g a 10 (S 5 0) (S 5 1) (S 5 2) (S 5 3) (S 5 4) (S 5 5) (S 5 6) (S 5 7) (S 5 8) (S 5 9) (S 5 10) (S 5 11), k_Places g a 11 (S 6 0) (S 7) (S 8) (S 9) (S 10) (S 11), k_Catalog g a 30 lefts tops cwidths cheights originals orients, k_PkO g a 37 (a 4) (a 30)]) rfl (b_e1 rfl (b_e1 rfl (b_e1 rfl (b_e1 rfl (b_e1 rfl (b_e1 rfl (b_e1 rfl b_e0))))))) 7 rfl (by decide) (st2 := [.long (f_X10_mix y20 (r21).toInt64)]) rfl (fun H locs hw => ?_)
    refine lv_aload_n hx hb dX10_mixSprite_197 rfl (lv_at hl 1 rfl) ?_
    refine lv_iload_n hx hb dX10_mixSprite_198 rfl (lv_at hl 2 rfl) ?_
    obtain ⟨r22, er22, h⟩ := g_cl_some h
    refine b_callV hx hb hml hown hT hK hA hw mk_X10_422 (c_X10_recordOf l D g a rnd S lefts tops cwidths cheights originals orients i2 r22 er22) [0, 1, 2, 4, 5] [3, 6] rfl (by decide) 0 0 rfl rfl rfl rfl hl.1 [.long (f_X10_mix y20 (r21).toInt64)] rfl (Nat.le_of_ble_eq_true rfl) ⟨Nat.le_of_ble_eq_true rfl, Nat.le_of_ble_eq_true rfl⟩ ⟨Nat.zero_le _, Nat.zero_le _⟩ dX10_mixSprite_199 (wb' := [k_Atlas g a rnd, k_StO g a 4, k_Sheet g a 5 (S 0 0) (S 1) (S 2) (S 3) (S 4), k_Settings g a 10 (S 5 0) (S 5 1) (S 5 2) (S 5 3) (S 5 4) (S 5 5) (S 5 6) (S 5 7) (S 5 8) (S 5 9) (S 5 10) (S 5 11), k_Places g a 11 (S 6 0) (S 7) (S 8) (S 9) (S 10) (S 11), k_Catalog g a 30 lefts tops cwidths cheights originals orients, k_PkO g a 37 (a 4) (a 30)]) rfl (b_e1 rfl (b_e1 rfl b_e0)) 7 rfl (by decide) (st2 := [.int r22, .long (f_X10_mix y20 (r21).toInt64)]) rfl (fun H locs hw => ?_)
    refine lv_i2l hx hb dX10_mixSprite_202 rfl ?_
    refine b_callS hx hb hml hown hT hK hA hw mk_X10_367 (c_X10_mix l D g (f_X10_mix y20 (r21).toInt64) (r22).toInt64) [] [0, 1, 2, 3, 4, 5, 6] rfl (by decide) rfl hl.1 [] rfl (Nat.le_of_ble_eq_true rfl) ⟨Nat.le_of_ble_eq_true rfl, Nat.le_of_ble_eq_true rfl⟩ ⟨Nat.zero_le _, Nat.zero_le _⟩ dX10_mixSprite_203 (wb' := [k_Atlas g a rnd, k_StO g a 4, k_Sheet g a 5 (S 0 0) (S 1) (S 2) (S 3) (S 4), k_Settings g a 10 (S 5 0) (S 5 1) (S 5 2) (S 5 3) (S 5 4) (S 5 5) (S 5 6) (S 5 7) (S 5 8) (S 5 9) (S 5 10) (S 5 11), k_Places g a 11 (S 6 0) (S 7) (S 8) (S 9) (S 10) (S 11), k_Catalog g a 30 lefts tops cwidths cheights originals orients, k_PkO g a 37 (a 4) (a 30)]) rfl (b_e1 rfl (b_e1 rfl (b_e1 rfl (b_e1 rfl (b_e1 rfl (b_e1 rfl (b_e1 rfl b_e0))))))) 7 rfl (by decide) (st2 := [.long (f_X10_mix (f_X10_mix y20 (r21).toInt64) (r22).toInt64)]) rfl (fun H locs hw => ?_)
    obtain rfl := Option.some.inj h
    exact b_lret hQ hx hb hr hlk hw rfl dX10_mixSprite_206
  have hL24 : ∀ (n : Nat) (y23 : Int64) (x24 : Int32) (H : Heap) (locs : List Loc) (ls : Array Slot), b_Wd D A s.heap H locs [k_Atlas g a rnd, k_StO g a 4, k_Sheet g a 5 (S 0 0) (S 1) (S 2) (S 3) (S 4), k_Settings g a 10 (S 5 0) (S 5 1) (S 5 2) (S 5 3) (S 5 4) (S 5 5) (S 5 6) (S 5 7) (S 5 8) (S 5 9) (S 5 10) (S 5 11), k_Places g a 11 (S 6 0) (S 7) (S 8) (S 9) (S 10) (S 11), k_Catalog g a 30 lefts tops cwidths cheights originals orients, k_PkO g a 37 (a 4) (a 30)] → lv_has ls 8 [(0, .ref (a 0)), (3, .int i2), (4, .long y23), (6, .int x24)] → f_X10_mixSprite_L24 S i2 k76_4 n y23 x24 = some u → W p l e (g_rm 5 130) s m args below meth c H locs 0 0 Q (F0 m 24 ls []) := by
    intro n
    induction n with
    | zero =>
      intro y23 x24 H locs ls hw hl h
      cases (show none = some u from h)
    | succ n ih24 =>
      intro y23 x24 H locs ls hw hl h
      rw [f_X10_mixSprite_L24] at h
      refine lv_iload hx hb dX10_mixSprite_24 (lv_at hl 3 rfl) ?_
      refine lv_aload_n hx hb dX10_mixSprite_26 rfl (lv_at hl 0 rfl) ?_
      refine lv_iload_n hx hb dX10_mixSprite_27 rfl (lv_at hl 1 rfl) ?_
      obtain ⟨r25, er25, h⟩ := g_cl_some h
      refine b_callV hx hb hml hown hT hK hA hw mk_X10_428 (c_X10_height l D g a rnd S i2 r25 er25) [0, 1, 2] [3, 4, 5, 6] rfl (by decide) 0 0 rfl rfl rfl rfl hl.1 [.int x24] rfl (Nat.le_of_ble_eq_true rfl) ⟨Nat.le_of_ble_eq_true rfl, Nat.le_of_ble_eq_true rfl⟩ ⟨Nat.zero_le _, Nat.zero_le _⟩ dX10_mixSprite_28 (wb' := [k_Atlas g a rnd, k_StO g a 4, k_Sheet g a 5 (S 0 0) (S 1) (S 2) (S 3) (S 4), k_Settings g a 10 (S 5 0) (S 5 1) (S 5 2) (S 5 3) (S 5 4) (S 5 5) (S 5 6) (S 5 7) (S 5 8) (S 5 9) (S 5 10) (S 5 11), k_Places g a 11 (S 6 0) (S 7) (S 8) (S 9) (S 10) (S 11), k_Catalog g a 30 lefts tops cwidths cheights originals orients, k_PkO g a 37 (a 4) (a 30)]) rfl (b_e1 rfl (b_e1 rfl (b_e1 rfl (b_e1 rfl b_e0)))) 7 rfl (by decide) (st2 := [.int r25, .int x24]) rfl (fun H locs hw => ?_)
      refine lv_icmp_ge (tgt := 76) hx hb dX10_mixSprite_31 (by decide) (fun hc31 => ?_) (fun hc31 => ?_)
      · rw [if_pos hc31] at h
        exact hk76_4 y23 _ _ _ hw (lv_sub hl [0, 1, 2] rfl) h
      · rw [if_neg hc31] at h
        refine lv_iconst (v := 0) hx hb dX10_mixSprite_34 (by decide) ?_
        refine lv_istore (lv' := [(7, .int (0 : Int32)), (0, .ref (a 0)), (3, .int i2), (4, .long y23), (6, .int x24)]) hx hb dX10_mixSprite_35 hl (by decide) rfl (fun ls hl => ?_)
        obtain ⟨k70_26, ek70_26, h⟩ := g_jn_nm h
        have hk70_26 : ∀ (y26 : Int64) (H : Heap) (locs : List Loc) (ls : Array Slot), b_Wd D A s.heap H locs [k_Atlas g a rnd, k_StO g a 4, k_Sheet g a 5 (S 0 0) (S 1) (S 2) (S 3) (S 4), k_Settings g a 10 (S 5 0) (S 5 1) (S 5 2) (S 5 3) (S 5 4) (S 5 5) (S 5 6) (S 5 7) (S 5 8) (S 5 9) (S 5 10) (S 5 11), k_Places g a 11 (S 6 0) (S 7) (S 8) (S 9) (S 10) (S 11), k_Catalog g a 30 lefts tops cwidths cheights originals orients, k_PkO g a 37 (a 4) (a 30)] → lv_has ls 8 [(0, .ref (a 0)), (3, .int i2), (4, .long y26), (6, .int x24)] → k70_26 y26 = some u → W p l e (g_rm 5 130) s m args below meth c H locs 0 0 Q (F0 m 70 ls []) := by
          intro y26 H locs ls hw hl h
          subst ek70_26
          dsimp only at h
          obtain ⟨x28, ex28, h⟩ := g_bd_nm h
          refine lv_iinc (v := x28) (lv' := [(6, .int x28), (0, .ref (a 0)), (3, .int i2), (4, .long y26)]) hx hb dX10_mixSprite_70 hl (k := 3) rfl (by rw [ex28]; rfl) (by decide) rfl (fun ls hl => ?_)
          refine lv_goto (tgt := 24) hx hb dX10_mixSprite_73 (by decide) ?_
          exact ih24 y26 x28 _ _ _ hw (lv_sub hl [1, 2, 3, 0] rfl) h
        have hL37 : ∀ (n : Nat) (y29 : Int64) (x30 : Int32) (H : Heap) (locs : List Loc) (ls : Array Slot), b_Wd D A s.heap H locs [k_Atlas g a rnd, k_StO g a 4, k_Sheet g a 5 (S 0 0) (S 1) (S 2) (S 3) (S 4), k_Settings g a 10 (S 5 0) (S 5 1) (S 5 2) (S 5 3) (S 5 4) (S 5 5) (S 5 6) (S 5 7) (S 5 8) (S 5 9) (S 5 10) (S 5 11), k_Places g a 11 (S 6 0) (S 7) (S 8) (S 9) (S 10) (S 11), k_Catalog g a 30 lefts tops cwidths cheights originals orients, k_PkO g a 37 (a 4) (a 30)] → lv_has ls 8 [(0, .ref (a 0)), (3, .int i2), (4, .long y29), (6, .int x24), (7, .int x30)] → f_X10_mixSprite_L37 S i2 x24 k70_26 n y29 x30 = some u → W p l e (g_rm 5 130) s m args below meth c H locs 0 0 Q (F0 m 37 ls []) := by
          intro n
          induction n with
          | zero =>
            intro y29 x30 H locs ls hw hl h
            cases (show none = some u from h)
          | succ n ih37 =>
            intro y29 x30 H locs ls hw hl h
            rw [f_X10_mixSprite_L37] at h
            refine lv_iload hx hb dX10_mixSprite_37 (lv_at hl 4 rfl) ?_
            refine lv_aload_n hx hb dX10_mixSprite_39 rfl (lv_at hl 0 rfl) ?_
            refine lv_iload_n hx hb dX10_mixSprite_40 rfl (lv_at hl 1 rfl) ?_
            obtain ⟨r31, er31, h⟩ := g_cl_some h
            refine b_callV hx hb hml hown hT hK hA hw mk_X10_425 (c_X10_width l D g a rnd S i2 r31 er31) [0, 1, 2] [3, 4, 5, 6] rfl (by decide) 0 0 rfl rfl rfl rfl hl.1 [.int x30] rfl (Nat.le_of_ble_eq_true rfl) ⟨Nat.le_of_ble_eq_true rfl, Nat.le_of_ble_eq_true rfl⟩ ⟨Nat.zero_le _, Nat.zero_le _⟩ dX10_mixSprite_41 (wb' := [k_Atlas g a rnd, k_StO g a 4, k_Sheet g a 5 (S 0 0) (S 1) (S 2) (S 3) (S 4), k_Settings g a 10 (S 5 0) (S 5 1) (S 5 2) (S 5 3) (S 5 4) (S 5 5) (S 5 6) (S 5 7) (S 5 8) (S 5 9) (S 5 10) (S 5 11), k_Places g a 11 (S 6 0) (S 7) (S 8) (S 9) (S 10) (S 11), k_Catalog g a 30 lefts tops cwidths cheights originals orients, k_PkO g a 37 (a 4) (a 30)]) rfl (b_e1 rfl (b_e1 rfl (b_e1 rfl (b_e1 rfl b_e0)))) 7 rfl (by decide) (st2 := [.int r31, .int x30]) rfl (fun H locs hw => ?_)
            refine lv_icmp_ge (tgt := 70) hx hb dX10_mixSprite_44 (by decide) (fun hc44 => ?_) (fun hc44 => ?_)
            · rw [if_pos hc44] at h
              exact hk70_26 y29 _ _ _ hw (lv_sub hl [0, 1, 2, 3] rfl) h
            · rw [if_neg hc44] at h
              refine lv_lload hx hb dX10_mixSprite_47 (lv_at hl 2 rfl) ?_
              refine lv_aload_n hx hb dX10_mixSprite_49 rfl (lv_at hl 0 rfl) ?_
              refine lv_iload_n hx hb dX10_mixSprite_50 rfl (lv_at hl 1 rfl) ?_
              refine lv_iload hx hb dX10_mixSprite_51 (lv_at hl 4 rfl) ?_
              refine lv_iload hx hb dX10_mixSprite_53 (lv_at hl 3 rfl) ?_
              obtain ⟨r32, er32, h⟩ := g_cl_some h
              refine b_callV hx hb hml hown hT hK hA hw mk_X10_431 (c_X10_color l D g a rnd S i2 x30 x24 r32 er32) [0, 1, 2] [3, 4, 5, 6] rfl (by decide) 0 0 rfl rfl rfl rfl hl.1 [.long y29] rfl (Nat.le_of_ble_eq_true rfl) ⟨Nat.le_of_ble_eq_true rfl, Nat.le_of_ble_eq_true rfl⟩ ⟨Nat.zero_le _, Nat.zero_le _⟩ dX10_mixSprite_55 (wb' := [k_Atlas g a rnd, k_StO g a 4, k_Sheet g a 5 (S 0 0) (S 1) (S 2) (S 3) (S 4), k_Settings g a 10 (S 5 0) (S 5 1) (S 5 2) (S 5 3) (S 5 4) (S 5 5) (S 5 6) (S 5 7) (S 5 8) (S 5 9) (S 5 10) (S 5 11), k_Places g a 11 (S 6 0) (S 7) (S 8) (S 9) (S 10) (S 11), k_Catalog g a 30 lefts tops cwidths cheights originals orients, k_PkO g a 37 (a 4) (a 30)]) rfl (b_e1 rfl (b_e1 rfl (b_e1 rfl (b_e1 rfl b_e0)))) 7 rfl (by decide) (st2 := [.int r32, .long y29]) rfl (fun H locs hw => ?_)
              refine lv_i2l hx hb dX10_mixSprite_58 rfl ?_
              refine b_callS hx hb hml hown hT hK hA hw mk_X10_367 (c_X10_mix l D g y29 (r32).toInt64) [] [0, 1, 2, 3, 4, 5, 6] rfl (by decide) rfl hl.1 [] rfl (Nat.le_of_ble_eq_true rfl) ⟨Nat.le_of_ble_eq_true rfl, Nat.le_of_ble_eq_true rfl⟩ ⟨Nat.zero_le _, Nat.zero_le _⟩ dX10_mixSprite_59 (wb' := [k_Atlas g a rnd, k_StO g a 4, k_Sheet g a 5 (S 0 0) (S 1) (S 2) (S 3) (S 4), k_Settings g a 10 (S 5 0) (S 5 1) (S 5 2) (S 5 3) (S 5 4) (S 5 5) (S 5 6) (S 5 7) (S 5 8) (S 5 9) (S 5 10) (S 5 11), k_Places g a 11 (S 6 0) (S 7) (S 8) (S 9) (S 10) (S 11), k_Catalog g a 30 lefts tops cwidths cheights originals orients, k_PkO g a 37 (a 4) (a 30)]) rfl (b_e1 rfl (b_e1 rfl (b_e1 rfl (b_e1 rfl (b_e1 rfl (b_e1 rfl (b_e1 rfl b_e0))))))) 7 rfl (by decide) (st2 := [.long (f_X10_mix y29 (r32).toInt64)]) rfl (fun H locs hw => ?_)
              obtain ⟨y33, ey33, h⟩ := g_bd_nm h
              refine g_topl ey33 ?_
              refine lv_lstore (lv' := [(4, .long y33), (0, .ref (a 0)), (3, .int i2), (6, .int x24), (7, .int x30)]) hx hb dX10_mixSprite_62 hl (by decide) rfl (fun ls hl => ?_)
              obtain ⟨x34, ex34, h⟩ := g_bd_nm h
              refine lv_iinc (v := x34) (lv' := [(7, .int x34), (4, .long y33), (0, .ref (a 0)), (3, .int i2), (6, .int x24)]) hx hb dX10_mixSprite_64 hl (k := 4) rfl (by rw [ex34]; rfl) (by decide) rfl (fun ls hl => ?_)
              refine lv_goto (tgt := 37) hx hb dX10_mixSprite_67 (by decide) ?_
              exact ih37 y33 x34 _ _ _ hw (lv_sub hl [2, 3, 1, 4, 0] rfl) h
        exact hL37 g_fuel y23 (0 : Int32) _ _ _ hw (lv_sub hl [1, 2, 3, 4, 0] rfl) h
  exact hL24 g_fuel y3 (0 : Int32) _ _ _ hw (lv_sub hl [2, 4, 1, 0] rfl) h
set_option maxRecDepth 100000 in
set_option maxHeartbeats 4000000 in
theorem c_X10_mixPage (l : Launch) (D : va_G) (g : Nat → ClassId) (a : Nat → Nat) (rnd : Int64) (S : Nat → Nat → Int32) (lefts : (Nat → Int32)) (tops : (Nat → Int32)) (cwidths : (Nat → Int32)) (cheights : (Nat → Int32)) (originals : (Nat → Int32)) (orients : (Nat → Int32)) (spW : Int32) (spH : Int32) (fr : (Nat → Int64)) (codes : (Nat → Int32)) (counts : (Nat → Int32)) (i1 : Int64) (i2 : Int32) (u : Int64) (h : f_X10_mixPage S lefts tops cwidths cheights counts i1 i2 = some u) : b_Ct l yX10_mixPage cX10_mixPage 8 (some .long) 3 80 D g [.ref (a 0), .long i1, .int i2] [k_Atlas g a rnd, k_StO g a 4, k_Sheet g a 5 (S 0 0) (S 1) (S 2) (S 3) (S 4), k_Settings g a 10 (S 5 0) (S 5 1) (S 5 2) (S 5 3) (S 5 4) (S 5 5) (S 5 6) (S 5 7) (S 5 8) (S 5 9) (S 5 10) (S 5 11), k_Places g a 11 (S 6 0) (S 7) (S 8) (S 9) (S 10) (S 11), k_Catalog g a 30 lefts tops cwidths cheights originals orients, k_PkO g a 37 (a 4) (a 30), k_Space g a 38 spW spH fr codes counts] [k_Atlas g a rnd, k_StO g a 4, k_Sheet g a 5 (S 0 0) (S 1) (S 2) (S 3) (S 4), k_Settings g a 10 (S 5 0) (S 5 1) (S 5 2) (S 5 3) (S 5 4) (S 5 5) (S 5 6) (S 5 7) (S 5 8) (S 5 9) (S 5 10) (S 5 11), k_Places g a 11 (S 6 0) (S 7) (S 8) (S 9) (S 10) (S 11), k_Catalog g a 30 lefts tops cwidths cheights originals orients, k_PkO g a 37 (a 4) (a 30), k_Space g a 38 spW spH fr codes counts] (some (.long u)) := by
  refine b_start RX10 (by decide) rfl (Nat.le_of_ble_eq_true rfl) rfl ?_
  intro p e s m args below meth c A ls Q hQ hx hb hr hlk hml hown hT hK hA hw hl
  have hl : lv_has ls 8 [(0, .ref (a 0)), (1, .long i1), (3, .int i2)] := hl
  unfold f_X10_mixPage at h
  refine lv_lload_n hx hb dX10_mixPage_0 rfl (lv_at hl 1 rfl) ?_
  refine lv_aload_n hx hb dX10_mixPage_1 rfl (lv_at hl 0 rfl) ?_
  refine lv_iload_n hx hb dX10_mixPage_2 rfl (lv_at hl 2 rfl) ?_
  obtain ⟨r1, er1, h⟩ := g_cl_some h
  refine b_callV hx hb hml hown hT hK hA hw mk_X10_458 (c_X10_usedWidth l D g a rnd S lefts tops cwidths cheights originals orients i2 r1 er1) [0, 1, 2, 3, 4, 5, 6] [7] rfl (by decide) 0 0 rfl rfl rfl rfl hl.1 [.long i1] rfl (Nat.le_of_ble_eq_true rfl) ⟨Nat.le_of_ble_eq_true rfl, Nat.le_of_ble_eq_true rfl⟩ ⟨Nat.zero_le _, Nat.zero_le _⟩ dX10_mixPage_3 (wb' := [k_Atlas g a rnd, k_StO g a 4, k_Sheet g a 5 (S 0 0) (S 1) (S 2) (S 3) (S 4), k_Settings g a 10 (S 5 0) (S 5 1) (S 5 2) (S 5 3) (S 5 4) (S 5 5) (S 5 6) (S 5 7) (S 5 8) (S 5 9) (S 5 10) (S 5 11), k_Places g a 11 (S 6 0) (S 7) (S 8) (S 9) (S 10) (S 11), k_Catalog g a 30 lefts tops cwidths cheights originals orients, k_PkO g a 37 (a 4) (a 30), k_Space g a 38 spW spH fr codes counts]) rfl (b_e1 rfl b_e0) 8 rfl (by decide) (st2 := [.int r1, .long i1]) rfl (fun H locs hw => ?_)
  refine lv_i2l hx hb dX10_mixPage_6 rfl ?_
  refine b_callS hx hb hml hown hT hK hA hw mk_X10_367 (c_X10_mix l D g i1 (r1).toInt64) [] [0, 1, 2, 3, 4, 5, 6, 7] rfl (by decide) rfl hl.1 [] rfl (Nat.le_of_ble_eq_true rfl) ⟨Nat.le_of_ble_eq_true rfl, Nat.le_of_ble_eq_true rfl⟩ ⟨Nat.zero_le _, Nat.zero_le _⟩ dX10_mixPage_7 (wb' := [k_Atlas g a rnd, k_StO g a 4, k_Sheet g a 5 (S 0 0) (S 1) (S 2) (S 3) (S 4), k_Settings g a 10 (S 5 0) (S 5 1) (S 5 2) (S 5 3) (S 5 4) (S 5 5) (S 5 6) (S 5 7) (S 5 8) (S 5 9) (S 5 10) (S 5 11), k_Places g a 11 (S 6 0) (S 7) (S 8) (S 9) (S 10) (S 11), k_Catalog g a 30 lefts tops cwidths cheights originals orients, k_PkO g a 37 (a 4) (a 30), k_Space g a 38 spW spH fr codes counts]) rfl (b_e1 rfl (b_e1 rfl (b_e1 rfl (b_e1 rfl (b_e1 rfl (b_e1 rfl (b_e1 rfl (b_e1 rfl b_e0)))))))) 8 rfl (by decide) (st2 := [.long (f_X10_mix i1 (r1).toInt64)]) rfl (fun H locs hw => ?_)
  refine lv_aload_n hx hb dX10_mixPage_10 rfl (lv_at hl 0 rfl) ?_
  refine lv_iload_n hx hb dX10_mixPage_11 rfl (lv_at hl 2 rfl) ?_
  obtain ⟨r2, er2, h⟩ := g_cl_some h
  refine b_callV hx hb hml hown hT hK hA hw mk_X10_461 (c_X10_usedHeight l D g a rnd S lefts tops cwidths cheights originals orients i2 r2 er2) [0, 1, 2, 3, 4, 5, 6] [7] rfl (by decide) 0 0 rfl rfl rfl rfl hl.1 [.long (f_X10_mix i1 (r1).toInt64)] rfl (Nat.le_of_ble_eq_true rfl) ⟨Nat.le_of_ble_eq_true rfl, Nat.le_of_ble_eq_true rfl⟩ ⟨Nat.zero_le _, Nat.zero_le _⟩ dX10_mixPage_12 (wb' := [k_Atlas g a rnd, k_StO g a 4, k_Sheet g a 5 (S 0 0) (S 1) (S 2) (S 3) (S 4), k_Settings g a 10 (S 5 0) (S 5 1) (S 5 2) (S 5 3) (S 5 4) (S 5 5) (S 5 6) (S 5 7) (S 5 8) (S 5 9) (S 5 10) (S 5 11), k_Places g a 11 (S 6 0) (S 7) (S 8) (S 9) (S 10) (S 11), k_Catalog g a 30 lefts tops cwidths cheights originals orients, k_PkO g a 37 (a 4) (a 30), k_Space g a 38 spW spH fr codes counts]) rfl (b_e1 rfl b_e0) 8 rfl (by decide) (st2 := [.int r2, .long (f_X10_mix i1 (r1).toInt64)]) rfl (fun H locs hw => ?_)
  refine lv_i2l hx hb dX10_mixPage_15 rfl ?_
  refine b_callS hx hb hml hown hT hK hA hw mk_X10_367 (c_X10_mix l D g (f_X10_mix i1 (r1).toInt64) (r2).toInt64) [] [0, 1, 2, 3, 4, 5, 6, 7] rfl (by decide) rfl hl.1 [] rfl (Nat.le_of_ble_eq_true rfl) ⟨Nat.le_of_ble_eq_true rfl, Nat.le_of_ble_eq_true rfl⟩ ⟨Nat.zero_le _, Nat.zero_le _⟩ dX10_mixPage_16 (wb' := [k_Atlas g a rnd, k_StO g a 4, k_Sheet g a 5 (S 0 0) (S 1) (S 2) (S 3) (S 4), k_Settings g a 10 (S 5 0) (S 5 1) (S 5 2) (S 5 3) (S 5 4) (S 5 5) (S 5 6) (S 5 7) (S 5 8) (S 5 9) (S 5 10) (S 5 11), k_Places g a 11 (S 6 0) (S 7) (S 8) (S 9) (S 10) (S 11), k_Catalog g a 30 lefts tops cwidths cheights originals orients, k_PkO g a 37 (a 4) (a 30), k_Space g a 38 spW spH fr codes counts]) rfl (b_e1 rfl (b_e1 rfl (b_e1 rfl (b_e1 rfl (b_e1 rfl (b_e1 rfl (b_e1 rfl (b_e1 rfl b_e0)))))))) 8 rfl (by decide) (st2 := [.long (f_X10_mix (f_X10_mix i1 (r1).toInt64) (r2).toInt64)]) rfl (fun H locs hw => ?_)
  obtain ⟨y3, ey3, h⟩ := g_bd_nm h
  refine g_topl ey3 ?_
  refine lv_lstore (lv' := [(4, .long y3), (0, .ref (a 0)), (1, .long i1), (3, .int i2)]) hx hb dX10_mixPage_19 hl (by decide) rfl (fun ls hl => ?_)
  refine lv_lload hx hb dX10_mixPage_21 (lv_at hl 0 rfl) ?_
  refine lv_aload_n hx hb dX10_mixPage_23 rfl (lv_at hl 1 rfl) ?_
  refine lv_iload_n hx hb dX10_mixPage_24 rfl (lv_at hl 3 rfl) ?_
  obtain ⟨r4, er4, h⟩ := g_cl_some h
  refine b_callV hx hb hml hown hT hK hA hw mk_X10_464 (c_X10_freeRectangles l D g a rnd S spW spH fr codes counts i2 r4 er4) [0, 1, 4, 6, 7] [2, 3, 5] rfl (by decide) 0 0 rfl rfl rfl rfl hl.1 [.long y3] rfl (Nat.le_of_ble_eq_true rfl) ⟨Nat.le_of_ble_eq_true rfl, Nat.le_of_ble_eq_true rfl⟩ ⟨Nat.zero_le _, Nat.zero_le _⟩ dX10_mixPage_25 (wb' := [k_Atlas g a rnd, k_StO g a 4, k_Sheet g a 5 (S 0 0) (S 1) (S 2) (S 3) (S 4), k_Settings g a 10 (S 5 0) (S 5 1) (S 5 2) (S 5 3) (S 5 4) (S 5 5) (S 5 6) (S 5 7) (S 5 8) (S 5 9) (S 5 10) (S 5 11), k_Places g a 11 (S 6 0) (S 7) (S 8) (S 9) (S 10) (S 11), k_Catalog g a 30 lefts tops cwidths cheights originals orients, k_PkO g a 37 (a 4) (a 30), k_Space g a 38 spW spH fr codes counts]) rfl (b_e1 rfl (b_e1 rfl (b_e1 rfl b_e0))) 8 rfl (by decide) (st2 := [.int r4, .long y3]) rfl (fun H locs hw => ?_)
  refine lv_i2l hx hb dX10_mixPage_28 rfl ?_
  refine b_callS hx hb hml hown hT hK hA hw mk_X10_367 (c_X10_mix l D g y3 (r4).toInt64) [] [0, 1, 2, 3, 4, 5, 6, 7] rfl (by decide) rfl hl.1 [] rfl (Nat.le_of_ble_eq_true rfl) ⟨Nat.le_of_ble_eq_true rfl, Nat.le_of_ble_eq_true rfl⟩ ⟨Nat.zero_le _, Nat.zero_le _⟩ dX10_mixPage_29 (wb' := [k_Atlas g a rnd, k_StO g a 4, k_Sheet g a 5 (S 0 0) (S 1) (S 2) (S 3) (S 4), k_Settings g a 10 (S 5 0) (S 5 1) (S 5 2) (S 5 3) (S 5 4) (S 5 5) (S 5 6) (S 5 7) (S 5 8) (S 5 9) (S 5 10) (S 5 11), k_Places g a 11 (S 6 0) (S 7) (S 8) (S 9) (S 10) (S 11), k_Catalog g a 30 lefts tops cwidths cheights originals orients, k_PkO g a 37 (a 4) (a 30), k_Space g a 38 spW spH fr codes counts]) rfl (b_e1 rfl (b_e1 rfl (b_e1 rfl (b_e1 rfl (b_e1 rfl (b_e1 rfl (b_e1 rfl (b_e1 rfl b_e0)))))))) 8 rfl (by decide) (st2 := [.long (f_X10_mix y3 (r4).toInt64)]) rfl (fun H locs hw => ?_)
  obtain ⟨y5, ey5, h⟩ := g_bd_nm h
  refine g_topl ey5 ?_
  refine lv_lstore (lv' := [(4, .long y5), (0, .ref (a 0)), (1, .long i1), (3, .int i2)]) hx hb dX10_mixPage_32 hl (by decide) rfl (fun ls hl => ?_)
  refine lv_iconst (v := 0) hx hb dX10_mixPage_34 (by decide) ?_
  refine lv_istore (lv' := [(6, .int (0 : Int32)), (4, .long y5), (0, .ref (a 0)), (1, .long i1), (3, .int i2)]) hx hb dX10_mixPage_35 hl (by decide) rfl (fun ls hl => ?_)
  have hL37 : ∀ (n : Nat) (y6 : Int64) (x7 : Int32) (H : Heap) (locs : List Loc) (ls : Array Slot), b_Wd D A s.heap H locs [k_Atlas g a rnd, k_StO g a 4, k_Sheet g a 5 (S 0 0) (S 1) (S 2) (S 3) (S 4), k_Settings g a 10 (S 5 0) (S 5 1) (S 5 2) (S 5 3) (S 5 4) (S 5 5) (S 5 6) (S 5 7) (S 5 8) (S 5 9) (S 5 10) (S 5 11), k_Places g a 11 (S 6 0) (S 7) (S 8) (S 9) (S 10) (S 11), k_Catalog g a 30 lefts tops cwidths cheights originals orients, k_PkO g a 37 (a 4) (a 30), k_Space g a 38 spW spH fr codes counts] → lv_has ls 8 [(0, .ref (a 0)), (3, .int i2), (4, .long y6), (6, .int x7)] → f_X10_mixPage_L37 S lefts tops cwidths cheights i2 n y6 x7 = some u → W p l e (g_rm 3 80) s m args below meth c H locs 0 0 Q (F0 m 37 ls []) := by
    intro n
    induction n with
    | zero =>
      intro y6 x7 H locs ls hw hl h
      cases (show none = some u from h)
    | succ n ih37 =>
      intro y6 x7 H locs ls hw hl h
      rw [f_X10_mixPage_L37] at h
      refine lv_iload hx hb dX10_mixPage_37 (lv_at hl 3 rfl) ?_
      refine lv_aload_n hx hb dX10_mixPage_39 rfl (lv_at hl 0 rfl) ?_
      refine b_get hx hb hT hK hown fl_X10_47 hw 0 0 rfl rfl (v := .ref (a 4)) rfl dX10_mixPage_40 ?_
      refine b_get hx hb hT hK hown fl_X10_105 hw 1 0 rfl rfl (v := .ref (a 10)) rfl dX10_mixPage_43 ?_
      refine b_get hx hb hT hK hown fl_X10_170 hw 3 0 rfl rfl (v := .int (S 5 1)) rfl dX10_mixPage_46 ?_
      refine lv_icmp_ge (tgt := 102) hx hb dX10_mixPage_49 (by decide) (fun hc49 => ?_) (fun hc49 => ?_)
      · rw [if_pos hc49] at h
        refine lv_lload hx hb dX10_mixPage_102 (lv_at hl 2 rfl) ?_
        obtain rfl := Option.some.inj h
        exact b_lret hQ hx hb hr hlk hw rfl dX10_mixPage_104
      · rw [if_neg hc49] at h
        refine lv_iconst (v := 0) hx hb dX10_mixPage_52 (by decide) ?_
        refine lv_istore (lv' := [(7, .int (0 : Int32)), (0, .ref (a 0)), (3, .int i2), (4, .long y6), (6, .int x7)]) hx hb dX10_mixPage_53 hl (by decide) rfl (fun ls hl => ?_)
        obtain ⟨k96_8, ek96_8, h⟩ := g_jn_nm h
        have hk96_8 : ∀ (y8 : Int64) (H : Heap) (locs : List Loc) (ls : Array Slot), b_Wd D A s.heap H locs [k_Atlas g a rnd, k_StO g a 4, k_Sheet g a 5 (S 0 0) (S 1) (S 2) (S 3) (S 4), k_Settings g a 10 (S 5 0) (S 5 1) (S 5 2) (S 5 3) (S 5 4) (S 5 5) (S 5 6) (S 5 7) (S 5 8) (S 5 9) (S 5 10) (S 5 11), k_Places g a 11 (S 6 0) (S 7) (S 8) (S 9) (S 10) (S 11), k_Catalog g a 30 lefts tops cwidths cheights originals orients, k_PkO g a 37 (a 4) (a 30), k_Space g a 38 spW spH fr codes counts] → lv_has ls 8 [(0, .ref (a 0)), (3, .int i2), (4, .long y8), (6, .int x7)] → k96_8 y8 = some u → W p l e (g_rm 3 80) s m args below meth c H locs 0 0 Q (F0 m 96 ls []) := by
          intro y8 H locs ls hw hl h
          subst ek96_8
          dsimp only at h
          obtain ⟨x10, ex10, h⟩ := g_bd_nm h
          refine lv_iinc (v := x10) (lv' := [(6, .int x10), (0, .ref (a 0)), (3, .int i2), (4, .long y8)]) hx hb dX10_mixPage_96 hl (k := 3) rfl (by rw [ex10]; rfl) (by decide) rfl (fun ls hl => ?_)
          refine lv_goto (tgt := 37) hx hb dX10_mixPage_99 (by decide) ?_
          exact ih37 y8 x10 _ _ _ hw (lv_sub hl [1, 2, 3, 0] rfl) h
        have hL55 : ∀ (n : Nat) (y11 : Int64) (x12 : Int32) (H : Heap) (locs : List Loc) (ls : Array Slot), b_Wd D A s.heap H locs [k_Atlas g a rnd, k_StO g a 4, k_Sheet g a 5 (S 0 0) (S 1) (S 2) (S 3) (S 4), k_Settings g a 10 (S 5 0) (S 5 1) (S 5 2) (S 5 3) (S 5 4) (S 5 5) (S 5 6) (S 5 7) (S 5 8) (S 5 9) (S 5 10) (S 5 11), k_Places g a 11 (S 6 0) (S 7) (S 8) (S 9) (S 10) (S 11), k_Catalog g a 30 lefts tops cwidths cheights originals orients, k_PkO g a 37 (a 4) (a 30), k_Space g a 38 spW spH fr codes counts] → lv_has ls 8 [(0, .ref (a 0)), (3, .int i2), (4, .long y11), (6, .int x7), (7, .int x12)] → f_X10_mixPage_L55 S lefts tops cwidths cheights i2 x7 k96_8 n y11 x12 = some u → W p l e (g_rm 3 80) s m args below meth c H locs 0 0 Q (F0 m 55 ls []) := by
          intro n
          induction n with
          | zero =>
            intro y11 x12 H locs ls hw hl h
            cases (show none = some u from h)
          | succ n ih55 =>
            intro y11 x12 H locs ls hw hl h
            rw [f_X10_mixPage_L55] at h
            refine lv_iload hx hb dX10_mixPage_55 (lv_at hl 4 rfl) ?_
            refine lv_aload_n hx hb dX10_mixPage_57 rfl (lv_at hl 0 rfl) ?_
            refine b_get hx hb hT hK hown fl_X10_47 hw 0 0 rfl rfl (v := .ref (a 4)) rfl dX10_mixPage_58 ?_
            refine b_get hx hb hT hK hown fl_X10_105 hw 1 0 rfl rfl (v := .ref (a 10)) rfl dX10_mixPage_61 ?_
            refine b_get hx hb hT hK hown fl_X10_165 hw 3 0 rfl rfl (v := .int (S 5 0)) rfl dX10_mixPage_64 ?_
            refine lv_icmp_ge (tgt := 96) hx hb dX10_mixPage_67 (by decide) (fun hc67 => ?_) (fun hc67 => ?_)
            · rw [if_pos hc67] at h
              exact hk96_8 y11 _ _ _ hw (lv_sub hl [0, 1, 2, 3] rfl) h
            · rw [if_neg hc67] at h
              refine lv_lload hx hb dX10_mixPage_70 (lv_at hl 2 rfl) ?_
              refine lv_aload_n hx hb dX10_mixPage_72 rfl (lv_at hl 0 rfl) ?_
              refine b_get hx hb hT hK hown fl_X10_62 hw 0 0 rfl rfl (v := .ref (a 37)) rfl dX10_mixPage_73 ?_
              refine lv_iload_n hx hb dX10_mixPage_76 rfl (lv_at hl 1 rfl) ?_
              refine lv_iload hx hb dX10_mixPage_77 (lv_at hl 4 rfl) ?_
              refine lv_iload hx hb dX10_mixPage_79 (lv_at hl 3 rfl) ?_
              obtain ⟨r13, er13, h⟩ := g_cl_some h
              refine b_callV hx hb hml hown hT hK hA hw mk_X10_265 (c_X3_colorOn l D g a 37 a 4 a 30 S lefts tops cwidths cheights originals orients i2 x12 x7 r13 er13) [6, 1, 2, 3, 4, 5] [0, 7] rfl (by decide) 6 0 rfl rfl rfl rfl hl.1 [.long y11] rfl (Nat.le_of_ble_eq_true rfl) ⟨Nat.le_of_ble_eq_true rfl, Nat.le_of_ble_eq_true rfl⟩ ⟨Nat.zero_le _, Nat.zero_le _⟩ dX10_mixPage_81 (wb' := [k_Atlas g a rnd, k_StO g a 4, k_Sheet g a 5 (S 0 0) (S 1) (S 2) (S 3) (S 4), k_Settings g a 10 (S 5 0) (S 5 1) (S 5 2) (S 5 3) (S 5 4) (S 5 5) (S 5 6) (S 5 7) (S 5 8) (S 5 9) (S 5 10) (S 5 11), k_Places g a 11 (S 6 0) (S 7) (S 8) (S 9) (S 10) (S 11), k_Catalog g a 30 lefts tops cwidths cheights originals orients, k_PkO g a 37 (a 4) (a 30), k_Space g a 38 spW spH fr codes counts]) rfl (b_e1 rfl (b_e1 rfl b_e0)) 8 rfl (by decide) (st2 := [.int r13, .long y11]) rfl (fun H locs hw => ?_)
              refine lv_i2l hx hb dX10_mixPage_84 rfl ?_
              refine b_callS hx hb hml hown hT hK hA hw mk_X10_367 (c_X10_mix l D g y11 (r13).toInt64) [] [0, 1, 2, 3, 4, 5, 6, 7] rfl (by decide) rfl hl.1 [] rfl (Nat.le_of_ble_eq_true rfl) ⟨Nat.le_of_ble_eq_true rfl, Nat.le_of_ble_eq_true rfl⟩ ⟨Nat.zero_le _, Nat.zero_le _⟩ dX10_mixPage_85 (wb' := [k_Atlas g a rnd, k_StO g a 4, k_Sheet g a 5 (S 0 0) (S 1) (S 2) (S 3) (S 4), k_Settings g a 10 (S 5 0) (S 5 1) (S 5 2) (S 5 3) (S 5 4) (S 5 5) (S 5 6) (S 5 7) (S 5 8) (S 5 9) (S 5 10) (S 5 11), k_Places g a 11 (S 6 0) (S 7) (S 8) (S 9) (S 10) (S 11), k_Catalog g a 30 lefts tops cwidths cheights originals orients, k_PkO g a 37 (a 4) (a 30), k_Space g a 38 spW spH fr codes counts]) rfl (b_e1 rfl (b_e1 rfl (b_e1 rfl (b_e1 rfl (b_e1 rfl (b_e1 rfl (b_e1 rfl (b_e1 rfl b_e0)))))))) 8 rfl (by decide) (st2 := [.long (f_X10_mix y11 (r13).toInt64)]) rfl (fun H locs hw => ?_)
              obtain ⟨y14, ey14, h⟩ := g_bd_nm h
              refine g_topl ey14 ?_
              refine lv_lstore (lv' := [(4, .long y14), (0, .ref (a 0)), (3, .int i2), (6, .int x7), (7, .int x12)]) hx hb dX10_mixPage_88 hl (by decide) rfl (fun ls hl => ?_)
              obtain ⟨x15, ex15, h⟩ := g_bd_nm h
              refine lv_iinc (v := x15) (lv' := [(7, .int x15), (4, .long y14), (0, .ref (a 0)), (3, .int i2), (6, .int x7)]) hx hb dX10_mixPage_90 hl (k := 4) rfl (by rw [ex15]; rfl) (by decide) rfl (fun ls hl => ?_)
              refine lv_goto (tgt := 55) hx hb dX10_mixPage_93 (by decide) ?_
              exact ih55 y14 x15 _ _ _ hw (lv_sub hl [2, 3, 1, 4, 0] rfl) h
        exact hL55 g_fuel y6 (0 : Int32) _ _ _ hw (lv_sub hl [1, 2, 3, 4, 0] rfl) h
  exact hL37 g_fuel y5 (0 : Int32) _ _ _ hw (lv_sub hl [2, 4, 1, 0] rfl) h
