set_option maxRecDepth 100000 in
set_option maxHeartbeats 4000000 in
theorem c_X10_spriteAt (l : Launch) (D : va_G) (g : Nat → ClassId) (a : Nat → Nat) (rnd : Int64) (S : Nat → Nat → Int32) (lefts : (Nat → Int32)) (tops : (Nat → Int32)) (cwidths : (Nat → Int32)) (cheights : (Nat → Int32)) (originals : (Nat → Int32)) (orients : (Nat → Int32)) (i1 : Int32) (i2 : Int32) (i3 : Int32) (u : Int32) (h : f_X10_spriteAt S cwidths cheights i1 i2 i3 = some u) : b_Ct l yX10_spriteAt cX10_spriteAt 4 (some .int) 3 66 D g [.ref (a 0), .int i1, .int i2, .int i3] [k_Atlas g a rnd, k_StO g a 4, k_Sheet g a 5 (S 0 0) (S 1) (S 2) (S 3) (S 4), k_Settings g a 10 (S 5 0) (S 5 1) (S 5 2) (S 5 3) (S 5 4) (S 5 5) (S 5 6) (S 5 7) (S 5 8) (S 5 9) (S 5 10) (S 5 11), k_Places g a 11 (S 6 0) (S 7) (S 8) (S 9) (S 10) (S 11), k_Catalog g a 30 lefts tops cwidths cheights originals orients, k_PkO g a 37 (a 4) (a 30)] [k_Atlas g a rnd, k_StO g a 4, k_Sheet g a 5 (S 0 0) (S 1) (S 2) (S 3) (S 4), k_Settings g a 10 (S 5 0) (S 5 1) (S 5 2) (S 5 3) (S 5 4) (S 5 5) (S 5 6) (S 5 7) (S 5 8) (S 5 9) (S 5 10) (S 5 11), k_Places g a 11 (S 6 0) (S 7) (S 8) (S 9) (S 10) (S 11), k_Catalog g a 30 lefts tops cwidths cheights originals orients, k_PkO g a 37 (a 4) (a 30)] (some (.int u)) := by
  refine b_start RX10 (by decide) rfl (Nat.le_of_ble_eq_true rfl) rfl ?_
  intro p e s m args below meth c A ls Q hQ hx hb hr hlk hml hown hT hK hA hw hl
  have hl : lv_has ls 4 [(0, .ref (a 0)), (1, .int i1), (2, .int i2), (3, .int i3)] := hl
  unfold f_X10_spriteAt at h
  refine lv_aload_n hx hb dX10_spriteAt_0 rfl (lv_at hl 0 rfl) ?_
  refine lv_iload_n hx hb dX10_spriteAt_1 rfl (lv_at hl 1 rfl) ?_
  refine lv_iload_n hx hb dX10_spriteAt_2 rfl (lv_at hl 2 rfl) ?_
  refine lv_iload_n hx hb dX10_spriteAt_3 rfl (lv_at hl 3 rfl) ?_
  obtain ⟨r1, er1, h⟩ := g_cl_some h
  refine b_callV hx hb hml hown hT hK hA hw mk_X10_262 (c_X10_hasPagePixel l D g a rnd S i1 i2 i3 r1 er1) [0, 1, 3, 4] [2, 5, 6] rfl (by decide) 0 0 rfl rfl rfl rfl hl.1 [] rfl (Nat.le_of_ble_eq_true rfl) ⟨Nat.le_of_ble_eq_true rfl, Nat.le_of_ble_eq_true rfl⟩ ⟨Nat.zero_le _, Nat.zero_le _⟩ dX10_spriteAt_4 (wb' := [k_Atlas g a rnd, k_StO g a 4, k_Sheet g a 5 (S 0 0) (S 1) (S 2) (S 3) (S 4), k_Settings g a 10 (S 5 0) (S 5 1) (S 5 2) (S 5 3) (S 5 4) (S 5 5) (S 5 6) (S 5 7) (S 5 8) (S 5 9) (S 5 10) (S 5 11), k_Places g a 11 (S 6 0) (S 7) (S 8) (S 9) (S 10) (S 11), k_Catalog g a 30 lefts tops cwidths cheights originals orients, k_PkO g a 37 (a 4) (a 30)]) rfl (b_e1 rfl (b_e1 rfl (b_e1 rfl b_e0))) 7 rfl (by decide) (st2 := [.int r1]) rfl (fun H locs hw => ?_)
  refine lv_if_eq (tgt := 23) hx hb dX10_spriteAt_7 (by decide) (fun hc7 => ?_) (fun hc7 => ?_)
  · rw [if_pos hc7] at h
    refine lv_iconst (v := -1) hx hb dX10_spriteAt_23 (by decide) ?_
    obtain rfl := Option.some.inj h
    exact b_iret hQ hx hb hr hlk hw rfl dX10_spriteAt_24
  · rw [if_neg hc7] at h
    refine lv_aload_n hx hb dX10_spriteAt_10 rfl (lv_at hl 0 rfl) ?_
    refine b_get hx hb hT hK hown fl_X10_62 hw 0 0 rfl rfl (v := .ref (a 37)) rfl dX10_spriteAt_11 ?_
    refine lv_iload_n hx hb dX10_spriteAt_14 rfl (lv_at hl 1 rfl) ?_
    refine lv_iload_n hx hb dX10_spriteAt_15 rfl (lv_at hl 2 rfl) ?_
    refine lv_iload_n hx hb dX10_spriteAt_16 rfl (lv_at hl 3 rfl) ?_
    obtain ⟨r2, er2, h⟩ := g_cl_some h
    refine b_callV hx hb hml hown hT hK hA hw mk_X10_268 (c_X3_ownerOf l D g a 37 a 4 a 30 S lefts tops cwidths cheights originals orients i1 i2 i3 r2 er2) [6, 1, 2, 3, 4, 5] [0] rfl (by decide) 6 0 rfl rfl rfl rfl hl.1 [] rfl (Nat.le_of_ble_eq_true rfl) ⟨Nat.le_of_ble_eq_true rfl, Nat.le_of_ble_eq_true rfl⟩ ⟨Nat.zero_le _, Nat.zero_le _⟩ dX10_spriteAt_17 (wb' := [k_Atlas g a rnd, k_StO g a 4, k_Sheet g a 5 (S 0 0) (S 1) (S 2) (S 3) (S 4), k_Settings g a 10 (S 5 0) (S 5 1) (S 5 2) (S 5 3) (S 5 4) (S 5 5) (S 5 6) (S 5 7) (S 5 8) (S 5 9) (S 5 10) (S 5 11), k_Places g a 11 (S 6 0) (S 7) (S 8) (S 9) (S 10) (S 11), k_Catalog g a 30 lefts tops cwidths cheights originals orients, k_PkO g a 37 (a 4) (a 30)]) rfl (b_e1 rfl b_e0) 7 rfl (by decide) (st2 := [.int r2]) rfl (fun H locs hw => ?_)
    refine lv_goto (tgt := 24) hx hb dX10_spriteAt_20 (by decide) ?_
    obtain rfl := Option.some.inj h
    exact b_iret hQ hx hb hr hlk hw rfl dX10_spriteAt_24
set_option maxRecDepth 100000 in
set_option maxHeartbeats 4000000 in
theorem c_X10_usedWidth (l : Launch) (D : va_G) (g : Nat → ClassId) (a : Nat → Nat) (rnd : Int64) (S : Nat → Nat → Int32) (lefts : (Nat → Int32)) (tops : (Nat → Int32)) (cwidths : (Nat → Int32)) (cheights : (Nat → Int32)) (originals : (Nat → Int32)) (orients : (Nat → Int32)) (i1 : Int32) (u : Int32) (h : f_X10_usedWidth S cwidths cheights i1 = some u) : b_Ct l yX10_usedWidth cX10_usedWidth 2 (some .int) 2 44 D g [.ref (a 0), .int i1] [k_Atlas g a rnd, k_StO g a 4, k_Sheet g a 5 (S 0 0) (S 1) (S 2) (S 3) (S 4), k_Settings g a 10 (S 5 0) (S 5 1) (S 5 2) (S 5 3) (S 5 4) (S 5 5) (S 5 6) (S 5 7) (S 5 8) (S 5 9) (S 5 10) (S 5 11), k_Places g a 11 (S 6 0) (S 7) (S 8) (S 9) (S 10) (S 11), k_Catalog g a 30 lefts tops cwidths cheights originals orients, k_PkO g a 37 (a 4) (a 30)] [k_Atlas g a rnd, k_StO g a 4, k_Sheet g a 5 (S 0 0) (S 1) (S 2) (S 3) (S 4), k_Settings g a 10 (S 5 0) (S 5 1) (S 5 2) (S 5 3) (S 5 4) (S 5 5) (S 5 6) (S 5 7) (S 5 8) (S 5 9) (S 5 10) (S 5 11), k_Places g a 11 (S 6 0) (S 7) (S 8) (S 9) (S 10) (S 11), k_Catalog g a 30 lefts tops cwidths cheights originals orients, k_PkO g a 37 (a 4) (a 30)] (some (.int u)) := by
  refine b_start RX10 (by decide) rfl (Nat.le_of_ble_eq_true rfl) rfl ?_
  intro p e s m args below meth c A ls Q hQ hx hb hr hlk hml hown hT hK hA hw hl
  have hl : lv_has ls 2 [(0, .ref (a 0)), (1, .int i1)] := hl
  unfold f_X10_usedWidth at h
  refine lv_aload_n hx hb dX10_usedWidth_0 rfl (lv_at hl 0 rfl) ?_
  refine lv_iload_n hx hb dX10_usedWidth_1 rfl (lv_at hl 1 rfl) ?_
  obtain ⟨r1, er1, h⟩ := g_cl_some h
  refine b_callV hx hb hml hown hT hK hA hw mk_X10_271 (c_X10_hasPage l D g a rnd S i1 r1 er1) [0, 1, 4] [2, 3, 5, 6] rfl (by decide) 0 0 rfl rfl rfl rfl hl.1 [] rfl (Nat.le_of_ble_eq_true rfl) ⟨Nat.le_of_ble_eq_true rfl, Nat.le_of_ble_eq_true rfl⟩ ⟨Nat.zero_le _, Nat.zero_le _⟩ dX10_usedWidth_2 (wb' := [k_Atlas g a rnd, k_StO g a 4, k_Sheet g a 5 (S 0 0) (S 1) (S 2) (S 3) (S 4), k_Settings g a 10 (S 5 0) (S 5 1) (S 5 2) (S 5 3) (S 5 4) (S 5 5) (S 5 6) (S 5 7) (S 5 8) (S 5 9) (S 5 10) (S 5 11), k_Places g a 11 (S 6 0) (S 7) (S 8) (S 9) (S 10) (S 11), k_Catalog g a 30 lefts tops cwidths cheights originals orients, k_PkO g a 37 (a 4) (a 30)]) rfl (b_e1 rfl (b_e1 rfl (b_e1 rfl (b_e1 rfl b_e0)))) 7 rfl (by decide) (st2 := [.int r1]) rfl (fun H locs hw => ?_)
  refine lv_if_eq (tgt := 19) hx hb dX10_usedWidth_5 (by decide) (fun hc5 => ?_) (fun hc5 => ?_)
  · rw [if_pos hc5] at h
    refine lv_iconst (v := -1) hx hb dX10_usedWidth_19 (by decide) ?_
    obtain rfl := Option.some.inj h
    exact b_iret hQ hx hb hr hlk hw rfl dX10_usedWidth_20
  · rw [if_neg hc5] at h
    refine lv_aload_n hx hb dX10_usedWidth_8 rfl (lv_at hl 0 rfl) ?_
    refine b_get hx hb hT hK hown fl_X10_62 hw 0 0 rfl rfl (v := .ref (a 37)) rfl dX10_usedWidth_9 ?_
    refine lv_iload_n hx hb dX10_usedWidth_12 rfl (lv_at hl 1 rfl) ?_
    obtain ⟨r2, er2, h⟩ := g_cl_some h
    refine b_callV hx hb hml hown hT hK hA hw mk_X10_274 (c_X3_usedColumns l D g a 37 a 4 a 30 S lefts tops cwidths cheights originals orients i1 r2 er2) [6, 1, 2, 3, 4, 5] [0] rfl (by decide) 6 0 rfl rfl rfl rfl hl.1 [] rfl (Nat.le_of_ble_eq_true rfl) ⟨Nat.le_of_ble_eq_true rfl, Nat.le_of_ble_eq_true rfl⟩ ⟨Nat.zero_le _, Nat.zero_le _⟩ dX10_usedWidth_13 (wb' := [k_Atlas g a rnd, k_StO g a 4, k_Sheet g a 5 (S 0 0) (S 1) (S 2) (S 3) (S 4), k_Settings g a 10 (S 5 0) (S 5 1) (S 5 2) (S 5 3) (S 5 4) (S 5 5) (S 5 6) (S 5 7) (S 5 8) (S 5 9) (S 5 10) (S 5 11), k_Places g a 11 (S 6 0) (S 7) (S 8) (S 9) (S 10) (S 11), k_Catalog g a 30 lefts tops cwidths cheights originals orients, k_PkO g a 37 (a 4) (a 30)]) rfl (b_e1 rfl b_e0) 7 rfl (by decide) (st2 := [.int r2]) rfl (fun H locs hw => ?_)
    refine lv_goto (tgt := 20) hx hb dX10_usedWidth_16 (by decide) ?_
    obtain rfl := Option.some.inj h
    exact b_iret hQ hx hb hr hlk hw rfl dX10_usedWidth_20
set_option maxRecDepth 100000 in
set_option maxHeartbeats 4000000 in
theorem c_X10_usedHeight (l : Launch) (D : va_G) (g : Nat → ClassId) (a : Nat → Nat) (rnd : Int64) (S : Nat → Nat → Int32) (lefts : (Nat → Int32)) (tops : (Nat → Int32)) (cwidths : (Nat → Int32)) (cheights : (Nat → Int32)) (originals : (Nat → Int32)) (orients : (Nat → Int32)) (i1 : Int32) (u : Int32) (h : f_X10_usedHeight S cwidths cheights i1 = some u) : b_Ct l yX10_usedHeight cX10_usedHeight 2 (some .int) 2 44 D g [.ref (a 0), .int i1] [k_Atlas g a rnd, k_StO g a 4, k_Sheet g a 5 (S 0 0) (S 1) (S 2) (S 3) (S 4), k_Settings g a 10 (S 5 0) (S 5 1) (S 5 2) (S 5 3) (S 5 4) (S 5 5) (S 5 6) (S 5 7) (S 5 8) (S 5 9) (S 5 10) (S 5 11), k_Places g a 11 (S 6 0) (S 7) (S 8) (S 9) (S 10) (S 11), k_Catalog g a 30 lefts tops cwidths cheights originals orients, k_PkO g a 37 (a 4) (a 30)] [k_Atlas g a rnd, k_StO g a 4, k_Sheet g a 5 (S 0 0) (S 1) (S 2) (S 3) (S 4), k_Settings g a 10 (S 5 0) (S 5 1) (S 5 2) (S 5 3) (S 5 4) (S 5 5) (S 5 6) (S 5 7) (S 5 8) (S 5 9) (S 5 10) (S 5 11), k_Places g a 11 (S 6 0) (S 7) (S 8) (S 9) (S 10) (S 11), k_Catalog g a 30 lefts tops cwidths cheights originals orients, k_PkO g a 37 (a 4) (a 30)] (some (.int u)) := by
  refine b_start RX10 (by decide) rfl (Nat.le_of_ble_eq_true rfl) rfl ?_
  intro p e s m args below meth c A ls Q hQ hx hb hr hlk hml hown hT hK hA hw hl
  have hl : lv_has ls 2 [(0, .ref (a 0)), (1, .int i1)] := hl
  unfold f_X10_usedHeight at h
  refine lv_aload_n hx hb dX10_usedHeight_0 rfl (lv_at hl 0 rfl) ?_
  refine lv_iload_n hx hb dX10_usedHeight_1 rfl (lv_at hl 1 rfl) ?_
  obtain ⟨r1, er1, h⟩ := g_cl_some h
  refine b_callV hx hb hml hown hT hK hA hw mk_X10_271 (c_X10_hasPage l D g a rnd S i1 r1 er1) [0, 1, 4] [2, 3, 5, 6] rfl (by decide) 0 0 rfl rfl rfl rfl hl.1 [] rfl (Nat.le_of_ble_eq_true rfl) ⟨Nat.le_of_ble_eq_true rfl, Nat.le_of_ble_eq_true rfl⟩ ⟨Nat.zero_le _, Nat.zero_le _⟩ dX10_usedHeight_2 (wb' := [k_Atlas g a rnd, k_StO g a 4, k_Sheet g a 5 (S 0 0) (S 1) (S 2) (S 3) (S 4), k_Settings g a 10 (S 5 0) (S 5 1) (S 5 2) (S 5 3) (S 5 4) (S 5 5) (S 5 6) (S 5 7) (S 5 8) (S 5 9) (S 5 10) (S 5 11), k_Places g a 11 (S 6 0) (S 7) (S 8) (S 9) (S 10) (S 11), k_Catalog g a 30 lefts tops cwidths cheights originals orients, k_PkO g a 37 (a 4) (a 30)]) rfl (b_e1 rfl (b_e1 rfl (b_e1 rfl (b_e1 rfl b_e0)))) 7 rfl (by decide) (st2 := [.int r1]) rfl (fun H locs hw => ?_)
  refine lv_if_eq (tgt := 19) hx hb dX10_usedHeight_5 (by decide) (fun hc5 => ?_) (fun hc5 => ?_)
  · rw [if_pos hc5] at h
    refine lv_iconst (v := -1) hx hb dX10_usedHeight_19 (by decide) ?_
    obtain rfl := Option.some.inj h
    exact b_iret hQ hx hb hr hlk hw rfl dX10_usedHeight_20
  · rw [if_neg hc5] at h
    refine lv_aload_n hx hb dX10_usedHeight_8 rfl (lv_at hl 0 rfl) ?_
    refine b_get hx hb hT hK hown fl_X10_62 hw 0 0 rfl rfl (v := .ref (a 37)) rfl dX10_usedHeight_9 ?_
    refine lv_iload_n hx hb dX10_usedHeight_12 rfl (lv_at hl 1 rfl) ?_
    obtain ⟨r2, er2, h⟩ := g_cl_some h
    refine b_callV hx hb hml hown hT hK hA hw mk_X10_277 (c_X3_usedRows l D g a 37 a 4 a 30 S lefts tops cwidths cheights originals orients i1 r2 er2) [6, 1, 2, 3, 4, 5] [0] rfl (by decide) 6 0 rfl rfl rfl rfl hl.1 [] rfl (Nat.le_of_ble_eq_true rfl) ⟨Nat.le_of_ble_eq_true rfl, Nat.le_of_ble_eq_true rfl⟩ ⟨Nat.zero_le _, Nat.zero_le _⟩ dX10_usedHeight_13 (wb' := [k_Atlas g a rnd, k_StO g a 4, k_Sheet g a 5 (S 0 0) (S 1) (S 2) (S 3) (S 4), k_Settings g a 10 (S 5 0) (S 5 1) (S 5 2) (S 5 3) (S 5 4) (S 5 5) (S 5 6) (S 5 7) (S 5 8) (S 5 9) (S 5 10) (S 5 11), k_Places g a 11 (S 6 0) (S 7) (S 8) (S 9) (S 10) (S 11), k_Catalog g a 30 lefts tops cwidths cheights originals orients, k_PkO g a 37 (a 4) (a 30)]) rfl (b_e1 rfl b_e0) 7 rfl (by decide) (st2 := [.int r2]) rfl (fun H locs hw => ?_)
    refine lv_goto (tgt := 20) hx hb dX10_usedHeight_16 (by decide) ?_
    obtain rfl := Option.some.inj h
    exact b_iret hQ hx hb hr hlk hw rfl dX10_usedHeight_20
set_option maxRecDepth 100000 in
set_option maxHeartbeats 4000000 in
theorem c_X10_freeRectangles (l : Launch) (D : va_G) (g : Nat → ClassId) (a : Nat → Nat) (rnd : Int64) (S : Nat → Nat → Int32) (spW : Int32) (spH : Int32) (fr : (Nat → Int64)) (codes : (Nat → Int32)) (counts : (Nat → Int32)) (i1 : Int32) (u : Int32) (h : f_X10_freeRectangles S counts i1 = some u) : b_Ct l yX10_freeRectangles cX10_freeRectangles 2 (some .int) 2 43 D g [.ref (a 0), .int i1] [k_Atlas g a rnd, k_StO g a 4, k_Places g a 11 (S 6 0) (S 7) (S 8) (S 9) (S 10) (S 11), k_PkO g a 37 (a 4) (a 30), k_Space g a 38 spW spH fr codes counts] [k_Atlas g a rnd, k_StO g a 4, k_Places g a 11 (S 6 0) (S 7) (S 8) (S 9) (S 10) (S 11), k_PkO g a 37 (a 4) (a 30), k_Space g a 38 spW spH fr codes counts] (some (.int u)) := by
  refine b_start RX10 (by decide) rfl (Nat.le_of_ble_eq_true rfl) rfl ?_
  intro p e s m args below meth c A ls Q hQ hx hb hr hlk hml hown hT hK hA hw hl
  have hl : lv_has ls 2 [(0, .ref (a 0)), (1, .int i1)] := hl
  unfold f_X10_freeRectangles at h
  refine lv_aload_n hx hb dX10_freeRectangles_0 rfl (lv_at hl 0 rfl) ?_
  refine lv_iload_n hx hb dX10_freeRectangles_1 rfl (lv_at hl 1 rfl) ?_
  obtain ⟨r1, er1, h⟩ := g_cl_some h
  refine b_callV hx hb hml hown hT hK hA hw mk_X10_271 (c_X10_hasPage l D g a rnd S i1 r1 er1) [0, 1, 2] [3, 4] rfl (by decide) 0 0 rfl rfl rfl rfl hl.1 [] rfl (Nat.le_of_ble_eq_true rfl) ⟨Nat.le_of_ble_eq_true rfl, Nat.le_of_ble_eq_true rfl⟩ ⟨Nat.zero_le _, Nat.zero_le _⟩ dX10_freeRectangles_2 (wb' := [k_Atlas g a rnd, k_StO g a 4, k_Places g a 11 (S 6 0) (S 7) (S 8) (S 9) (S 10) (S 11), k_PkO g a 37 (a 4) (a 30), k_Space g a 38 spW spH fr codes counts]) rfl (b_e1 rfl (b_e1 rfl b_e0)) 5 rfl (by decide) (st2 := [.int r1]) rfl (fun H locs hw => ?_)
  refine lv_if_eq (tgt := 23) hx hb dX10_freeRectangles_5 (by decide) (fun hc5 => ?_) (fun hc5 => ?_)
  · rw [if_pos hc5] at h
    refine lv_iconst (v := -1) hx hb dX10_freeRectangles_23 (by decide) ?_
    obtain rfl := Option.some.inj h
    exact b_iret hQ hx hb hr hlk hw rfl dX10_freeRectangles_24
  · rw [if_neg hc5] at h
    refine lv_aload_n hx hb dX10_freeRectangles_8 rfl (lv_at hl 0 rfl) ?_
    refine b_get hx hb hT hK hown fl_X10_62 hw 0 0 rfl rfl (v := .ref (a 37)) rfl dX10_freeRectangles_9 ?_
    refine b_get hx hb hT hK hown fl_X10_280 hw 3 0 rfl rfl (v := .ref (a 38)) rfl dX10_freeRectangles_12 ?_
    refine b_get hx hb hT hK hown fl_X10_284 hw 4 0 rfl rfl (v := .ref (a 41)) rfl dX10_freeRectangles_15 ?_
    refine lv_iload_n hx hb dX10_freeRectangles_18 rfl (lv_at hl 1 rfl) ?_
    obtain ⟨x2, ex2, hix2, h⟩ := g_rd_some h
    refine b_iald hx hb hK hw 4 3 rfl (f := counts) rfl hix2 ex2 dX10_freeRectangles_19 ?_
    refine lv_goto (tgt := 24) hx hb dX10_freeRectangles_20 (by decide) ?_
    obtain rfl := Option.some.inj h
    exact b_iret hQ hx hb hr hlk hw rfl dX10_freeRectangles_24
set_option maxRecDepth 100000 in
set_option maxHeartbeats 4000000 in
theorem c_X10_hasFree (l : Launch) (D : va_G) (g : Nat → ClassId) (a : Nat → Nat) (rnd : Int64) (S : Nat → Nat → Int32) (spW : Int32) (spH : Int32) (fr : (Nat → Int64)) (codes : (Nat → Int32)) (counts : (Nat → Int32)) (i1 : Int32) (i2 : Int32) (u : Int32) (h : f_X10_hasFree S counts i1 i2 = some u) : b_Ct l yX10_hasFree cX10_hasFree 3 (some .boolean) 2 43 D g [.ref (a 0), .int i1, .int i2] [k_Atlas g a rnd, k_StO g a 4, k_Places g a 11 (S 6 0) (S 7) (S 8) (S 9) (S 10) (S 11), k_PkO g a 37 (a 4) (a 30), k_Space g a 38 spW spH fr codes counts] [k_Atlas g a rnd, k_StO g a 4, k_Places g a 11 (S 6 0) (S 7) (S 8) (S 9) (S 10) (S 11), k_PkO g a 37 (a 4) (a 30), k_Space g a 38 spW spH fr codes counts] (some (.int u)) := by
  refine b_start RX10 (by decide) rfl (Nat.le_of_ble_eq_true rfl) rfl ?_
  intro p e s m args below meth c A ls Q hQ hx hb hr hlk hml hown hT hK hA hw hl
  have hl : lv_has ls 3 [(0, .ref (a 0)), (1, .int i1), (2, .int i2)] := hl
  unfold f_X10_hasFree at h
  refine lv_aload_n hx hb dX10_hasFree_0 rfl (lv_at hl 0 rfl) ?_
  refine lv_iload_n hx hb dX10_hasFree_1 rfl (lv_at hl 1 rfl) ?_
  obtain ⟨r1, er1, h⟩ := g_cl_some h
  refine b_callV hx hb hml hown hT hK hA hw mk_X10_271 (c_X10_hasPage l D g a rnd S i1 r1 er1) [0, 1, 2] [3, 4] rfl (by decide) 0 0 rfl rfl rfl rfl hl.1 [] rfl (Nat.le_of_ble_eq_true rfl) ⟨Nat.le_of_ble_eq_true rfl, Nat.le_of_ble_eq_true rfl⟩ ⟨Nat.zero_le _, Nat.zero_le _⟩ dX10_hasFree_2 (wb' := [k_Atlas g a rnd, k_StO g a 4, k_Places g a 11 (S 6 0) (S 7) (S 8) (S 9) (S 10) (S 11), k_PkO g a 37 (a 4) (a 30), k_Space g a 38 spW spH fr codes counts]) rfl (b_e1 rfl (b_e1 rfl b_e0)) 5 rfl (by decide) (st2 := [.int r1]) rfl (fun H locs hw => ?_)
  refine lv_if_eq (tgt := 34) hx hb dX10_hasFree_5 (by decide) (fun hc5 => ?_) (fun hc5 => ?_)
  · rw [if_pos hc5] at h
    refine lv_iconst (v := 0) hx hb dX10_hasFree_34 (by decide) ?_
    obtain rfl := Option.some.inj h
    exact b_zret hQ hx hb hr hlk (Or.inl rfl) hw rfl dX10_hasFree_35
  · rw [if_neg hc5] at h
    refine lv_iload_n hx hb dX10_hasFree_8 rfl (lv_at hl 2 rfl) ?_
    refine lv_iconst (v := 0) hx hb dX10_hasFree_9 (by decide) ?_
    refine lv_aload_n hx hb dX10_hasFree_10 rfl (lv_at hl 0 rfl) ?_
    refine b_get hx hb hT hK hown fl_X10_62 hw 0 0 rfl rfl (v := .ref (a 37)) rfl dX10_hasFree_11 ?_
    refine b_get hx hb hT hK hown fl_X10_280 hw 3 0 rfl rfl (v := .ref (a 38)) rfl dX10_hasFree_14 ?_
    refine b_get hx hb hT hK hown fl_X10_284 hw 4 0 rfl rfl (v := .ref (a 41)) rfl dX10_hasFree_17 ?_
    refine lv_iload_n hx hb dX10_hasFree_20 rfl (lv_at hl 1 rfl) ?_
    obtain ⟨x2, ex2, hix2, h⟩ := g_rd_some h
    refine b_iald hx hb hK hw 4 3 rfl (f := counts) rfl hix2 ex2 dX10_hasFree_21 ?_
    refine lv_iconst (v := 1) hx hb dX10_hasFree_22 (by decide) ?_
    refine lv_isub hx hb dX10_hasFree_23 ?_
    refine b_callS hx hb hml hown hT hK hA hw mk_X10_69 (c_X10_isWithin l D g i2 (0 : Int32) (x2 - (1 : Int32))) [] [0, 1, 2, 3, 4] rfl (by decide) rfl hl.1 [] rfl (Nat.le_of_ble_eq_true rfl) ⟨Nat.le_of_ble_eq_true rfl, Nat.le_of_ble_eq_true rfl⟩ ⟨Nat.zero_le _, Nat.zero_le _⟩ dX10_hasFree_24 (wb' := [k_Atlas g a rnd, k_StO g a 4, k_Places g a 11 (S 6 0) (S 7) (S 8) (S 9) (S 10) (S 11), k_PkO g a 37 (a 4) (a 30), k_Space g a 38 spW spH fr codes counts]) rfl (b_e1 rfl (b_e1 rfl (b_e1 rfl (b_e1 rfl (b_e1 rfl b_e0))))) 5 rfl (by decide) (st2 := [.int (f_X10_isWithin i2 (0 : Int32) (x2 - (1 : Int32)))]) rfl (fun H locs hw => ?_)
    refine lv_if_eq (tgt := 34) hx hb dX10_hasFree_27 (by decide) (fun hc27 => ?_) (fun hc27 => ?_)
    · rw [if_pos hc27] at h
      refine lv_iconst (v := 0) hx hb dX10_hasFree_34 (by decide) ?_
      obtain rfl := Option.some.inj h
      exact b_zret hQ hx hb hr hlk (Or.inl rfl) hw rfl dX10_hasFree_35
    · rw [if_neg hc27] at h
      refine lv_iconst (v := 1) hx hb dX10_hasFree_30 (by decide) ?_
      refine lv_goto (tgt := 35) hx hb dX10_hasFree_31 (by decide) ?_
      obtain rfl := Option.some.inj h
      exact b_zret hQ hx hb hr hlk (Or.inr rfl) hw rfl dX10_hasFree_35
set_option maxRecDepth 100000 in
set_option maxHeartbeats 4000000 in
theorem c_X10_freeX (l : Launch) (D : va_G) (g : Nat → ClassId) (a : Nat → Nat) (rnd : Int64) (S : Nat → Nat → Int32) (spW : Int32) (spH : Int32) (fr : (Nat → Int64)) (codes : (Nat → Int32)) (counts : (Nat → Int32)) (i1 : Int32) (i2 : Int32) (u : Int32) (h : f_X10_freeX S codes counts i1 i2 = some u) : b_Ct l yX10_freeX cX10_freeX 3 (some .int) 3 65 D g [.ref (a 0), .int i1, .int i2] [k_Atlas g a rnd, k_StO g a 4, k_Places g a 11 (S 6 0) (S 7) (S 8) (S 9) (S 10) (S 11), k_PkO g a 37 (a 4) (a 30), k_Space g a 38 spW spH fr codes counts] [k_Atlas g a rnd, k_StO g a 4, k_Places g a 11 (S 6 0) (S 7) (S 8) (S 9) (S 10) (S 11), k_PkO g a 37 (a 4) (a 30), k_Space g a 38 spW spH fr codes counts] (some (.int u)) := by
  refine b_start RX10 (by decide) rfl (Nat.le_of_ble_eq_true rfl) rfl ?_
  intro p e s m args below meth c A ls Q hQ hx hb hr hlk hml hown hT hK hA hw hl
  have hl : lv_has ls 3 [(0, .ref (a 0)), (1, .int i1), (2, .int i2)] := hl
  unfold f_X10_freeX at h
  refine lv_aload_n hx hb dX10_freeX_0 rfl (lv_at hl 0 rfl) ?_
  refine lv_iload_n hx hb dX10_freeX_1 rfl (lv_at hl 1 rfl) ?_
  refine lv_iload_n hx hb dX10_freeX_2 rfl (lv_at hl 2 rfl) ?_
  obtain ⟨r1, er1, h⟩ := g_cl_some h
  refine b_callV hx hb hml hown hT hK hA hw mk_X10_289 (c_X10_hasFree l D g a rnd S spW spH fr codes counts i1 i2 r1 er1) [0, 1, 2, 3, 4] [] rfl (by decide) 0 0 rfl rfl rfl rfl hl.1 [] rfl (Nat.le_of_ble_eq_true rfl) ⟨Nat.le_of_ble_eq_true rfl, Nat.le_of_ble_eq_true rfl⟩ ⟨Nat.zero_le _, Nat.zero_le _⟩ dX10_freeX_3 (wb' := [k_Atlas g a rnd, k_StO g a 4, k_Places g a 11 (S 6 0) (S 7) (S 8) (S 9) (S 10) (S 11), k_PkO g a 37 (a 4) (a 30), k_Space g a 38 spW spH fr codes counts]) rfl b_e0 5 rfl (by decide) (st2 := [.int r1]) rfl (fun H locs hw => ?_)
  refine lv_if_eq (tgt := 27) hx hb dX10_freeX_6 (by decide) (fun hc6 => ?_) (fun hc6 => ?_)
  · rw [if_pos hc6] at h
    refine lv_iconst (v := -1) hx hb dX10_freeX_27 (by decide) ?_
    obtain rfl := Option.some.inj h
    exact b_iret hQ hx hb hr hlk hw rfl dX10_freeX_28
  · rw [if_neg hc6] at h
    refine lv_aload_n hx hb dX10_freeX_9 rfl (lv_at hl 0 rfl) ?_
    refine b_get hx hb hT hK hown fl_X10_62 hw 0 0 rfl rfl (v := .ref (a 37)) rfl dX10_freeX_10 ?_
    refine b_get hx hb hT hK hown fl_X10_280 hw 3 0 rfl rfl (v := .ref (a 38)) rfl dX10_freeX_13 ?_
    refine lv_iload_n hx hb dX10_freeX_16 rfl (lv_at hl 1 rfl) ?_
    refine lv_iload_n hx hb dX10_freeX_17 rfl (lv_at hl 2 rfl) ?_
    obtain ⟨r2, er2, h⟩ := g_cl_some h
    refine b_callV hx hb hml hown hT hK hA hw mk_X10_293 (c_X7_codeOf l D g a 38 spW spH fr codes counts i1 i2 r2 er2) [4] [0, 1, 2, 3] rfl (by decide) 4 0 rfl rfl rfl rfl hl.1 [] rfl (Nat.le_of_ble_eq_true rfl) ⟨Nat.le_of_ble_eq_true rfl, Nat.le_of_ble_eq_true rfl⟩ ⟨Nat.zero_le _, Nat.zero_le _⟩ dX10_freeX_18 (wb' := [k_Atlas g a rnd, k_StO g a 4, k_Places g a 11 (S 6 0) (S 7) (S 8) (S 9) (S 10) (S 11), k_PkO g a 37 (a 4) (a 30), k_Space g a 38 spW spH fr codes counts]) rfl (b_e1 rfl (b_e1 rfl (b_e1 rfl (b_e1 rfl b_e0)))) 5 rfl (by decide) (st2 := [.int r2]) rfl (fun H locs hw => ?_)
    refine b_callS hx hb hml hown hT hK hA hw mk_X10_297 (c_X7_leftIn l D g r2) [] [0, 1, 2, 3, 4] rfl (by decide) rfl hl.1 [] rfl (Nat.le_of_ble_eq_true rfl) ⟨Nat.le_of_ble_eq_true rfl, Nat.le_of_ble_eq_true rfl⟩ ⟨Nat.zero_le _, Nat.zero_le _⟩ dX10_freeX_21 (wb' := [k_Atlas g a rnd, k_StO g a 4, k_Places g a 11 (S 6 0) (S 7) (S 8) (S 9) (S 10) (S 11), k_PkO g a 37 (a 4) (a 30), k_Space g a 38 spW spH fr codes counts]) rfl (b_e1 rfl (b_e1 rfl (b_e1 rfl (b_e1 rfl (b_e1 rfl b_e0))))) 5 rfl (by decide) (st2 := [.int (f_X7_leftIn r2)]) rfl (fun H locs hw => ?_)
    refine lv_goto (tgt := 28) hx hb dX10_freeX_24 (by decide) ?_
    obtain rfl := Option.some.inj h
    exact b_iret hQ hx hb hr hlk hw rfl dX10_freeX_28
set_option maxRecDepth 100000 in
set_option maxHeartbeats 4000000 in
theorem c_X10_freeY (l : Launch) (D : va_G) (g : Nat → ClassId) (a : Nat → Nat) (rnd : Int64) (S : Nat → Nat → Int32) (spW : Int32) (spH : Int32) (fr : (Nat → Int64)) (codes : (Nat → Int32)) (counts : (Nat → Int32)) (i1 : Int32) (i2 : Int32) (u : Int32) (h : f_X10_freeY S codes counts i1 i2 = some u) : b_Ct l yX10_freeY cX10_freeY 3 (some .int) 3 65 D g [.ref (a 0), .int i1, .int i2] [k_Atlas g a rnd, k_StO g a 4, k_Places g a 11 (S 6 0) (S 7) (S 8) (S 9) (S 10) (S 11), k_PkO g a 37 (a 4) (a 30), k_Space g a 38 spW spH fr codes counts] [k_Atlas g a rnd, k_StO g a 4, k_Places g a 11 (S 6 0) (S 7) (S 8) (S 9) (S 10) (S 11), k_PkO g a 37 (a 4) (a 30), k_Space g a 38 spW spH fr codes counts] (some (.int u)) := by
  refine b_start RX10 (by decide) rfl (Nat.le_of_ble_eq_true rfl) rfl ?_
  intro p e s m args below meth c A ls Q hQ hx hb hr hlk hml hown hT hK hA hw hl
  have hl : lv_has ls 3 [(0, .ref (a 0)), (1, .int i1), (2, .int i2)] := hl
  unfold f_X10_freeY at h
  refine lv_aload_n hx hb dX10_freeY_0 rfl (lv_at hl 0 rfl) ?_
  refine lv_iload_n hx hb dX10_freeY_1 rfl (lv_at hl 1 rfl) ?_
  refine lv_iload_n hx hb dX10_freeY_2 rfl (lv_at hl 2 rfl) ?_
  obtain ⟨r1, er1, h⟩ := g_cl_some h
  refine b_callV hx hb hml hown hT hK hA hw mk_X10_289 (c_X10_hasFree l D g a rnd S spW spH fr codes counts i1 i2 r1 er1) [0, 1, 2, 3, 4] [] rfl (by decide) 0 0 rfl rfl rfl rfl hl.1 [] rfl (Nat.le_of_ble_eq_true rfl) ⟨Nat.le_of_ble_eq_true rfl, Nat.le_of_ble_eq_true rfl⟩ ⟨Nat.zero_le _, Nat.zero_le _⟩ dX10_freeY_3 (wb' := [k_Atlas g a rnd, k_StO g a 4, k_Places g a 11 (S 6 0) (S 7) (S 8) (S 9) (S 10) (S 11), k_PkO g a 37 (a 4) (a 30), k_Space g a 38 spW spH fr codes counts]) rfl b_e0 5 rfl (by decide) (st2 := [.int r1]) rfl (fun H locs hw => ?_)
  refine lv_if_eq (tgt := 27) hx hb dX10_freeY_6 (by decide) (fun hc6 => ?_) (fun hc6 => ?_)
  · rw [if_pos hc6] at h
    refine lv_iconst (v := -1) hx hb dX10_freeY_27 (by decide) ?_
    obtain rfl := Option.some.inj h
    exact b_iret hQ hx hb hr hlk hw rfl dX10_freeY_28
  · rw [if_neg hc6] at h
    refine lv_aload_n hx hb dX10_freeY_9 rfl (lv_at hl 0 rfl) ?_
    refine b_get hx hb hT hK hown fl_X10_62 hw 0 0 rfl rfl (v := .ref (a 37)) rfl dX10_freeY_10 ?_
    refine b_get hx hb hT hK hown fl_X10_280 hw 3 0 rfl rfl (v := .ref (a 38)) rfl dX10_freeY_13 ?_
    refine lv_iload_n hx hb dX10_freeY_16 rfl (lv_at hl 1 rfl) ?_
    refine lv_iload_n hx hb dX10_freeY_17 rfl (lv_at hl 2 rfl) ?_
    obtain ⟨r2, er2, h⟩ := g_cl_some h
    refine b_callV hx hb hml hown hT hK hA hw mk_X10_293 (c_X7_codeOf l D g a 38 spW spH fr codes counts i1 i2 r2 er2) [4] [0, 1, 2, 3] rfl (by decide) 4 0 rfl rfl rfl rfl hl.1 [] rfl (Nat.le_of_ble_eq_true rfl) ⟨Nat.le_of_ble_eq_true rfl, Nat.le_of_ble_eq_true rfl⟩ ⟨Nat.zero_le _, Nat.zero_le _⟩ dX10_freeY_18 (wb' := [k_Atlas g a rnd, k_StO g a 4, k_Places g a 11 (S 6 0) (S 7) (S 8) (S 9) (S 10) (S 11), k_PkO g a 37 (a 4) (a 30), k_Space g a 38 spW spH fr codes counts]) rfl (b_e1 rfl (b_e1 rfl (b_e1 rfl (b_e1 rfl b_e0)))) 5 rfl (by decide) (st2 := [.int r2]) rfl (fun H locs hw => ?_)
    refine b_callS hx hb hml hown hT hK hA hw mk_X10_300 (c_X7_topIn l D g r2) [] [0, 1, 2, 3, 4] rfl (by decide) rfl hl.1 [] rfl (Nat.le_of_ble_eq_true rfl) ⟨Nat.le_of_ble_eq_true rfl, Nat.le_of_ble_eq_true rfl⟩ ⟨Nat.zero_le _, Nat.zero_le _⟩ dX10_freeY_21 (wb' := [k_Atlas g a rnd, k_StO g a 4, k_Places g a 11 (S 6 0) (S 7) (S 8) (S 9) (S 10) (S 11), k_PkO g a 37 (a 4) (a 30), k_Space g a 38 spW spH fr codes counts]) rfl (b_e1 rfl (b_e1 rfl (b_e1 rfl (b_e1 rfl (b_e1 rfl b_e0))))) 5 rfl (by decide) (st2 := [.int (f_X7_topIn r2)]) rfl (fun H locs hw => ?_)
    refine lv_goto (tgt := 28) hx hb dX10_freeY_24 (by decide) ?_
    obtain rfl := Option.some.inj h
    exact b_iret hQ hx hb hr hlk hw rfl dX10_freeY_28
set_option maxRecDepth 100000 in
set_option maxHeartbeats 4000000 in
theorem c_X10_freeWidth (l : Launch) (D : va_G) (g : Nat → ClassId) (a : Nat → Nat) (rnd : Int64) (S : Nat → Nat → Int32) (spW : Int32) (spH : Int32) (fr : (Nat → Int64)) (codes : (Nat → Int32)) (counts : (Nat → Int32)) (i1 : Int32) (i2 : Int32) (u : Int32) (h : f_X10_freeWidth S codes counts i1 i2 = some u) : b_Ct l yX10_freeWidth cX10_freeWidth 3 (some .int) 3 65 D g [.ref (a 0), .int i1, .int i2] [k_Atlas g a rnd, k_StO g a 4, k_Places g a 11 (S 6 0) (S 7) (S 8) (S 9) (S 10) (S 11), k_PkO g a 37 (a 4) (a 30), k_Space g a 38 spW spH fr codes counts] [k_Atlas g a rnd, k_StO g a 4, k_Places g a 11 (S 6 0) (S 7) (S 8) (S 9) (S 10) (S 11), k_PkO g a 37 (a 4) (a 30), k_Space g a 38 spW spH fr codes counts] (some (.int u)) := by
  refine b_start RX10 (by decide) rfl (Nat.le_of_ble_eq_true rfl) rfl ?_
  intro p e s m args below meth c A ls Q hQ hx hb hr hlk hml hown hT hK hA hw hl
  have hl : lv_has ls 3 [(0, .ref (a 0)), (1, .int i1), (2, .int i2)] := hl
  unfold f_X10_freeWidth at h
  refine lv_aload_n hx hb dX10_freeWidth_0 rfl (lv_at hl 0 rfl) ?_
  refine lv_iload_n hx hb dX10_freeWidth_1 rfl (lv_at hl 1 rfl) ?_
  refine lv_iload_n hx hb dX10_freeWidth_2 rfl (lv_at hl 2 rfl) ?_
  obtain ⟨r1, er1, h⟩ := g_cl_some h
  refine b_callV hx hb hml hown hT hK hA hw mk_X10_289 (c_X10_hasFree l D g a rnd S spW spH fr codes counts i1 i2 r1 er1) [0, 1, 2, 3, 4] [] rfl (by decide) 0 0 rfl rfl rfl rfl hl.1 [] rfl (Nat.le_of_ble_eq_true rfl) ⟨Nat.le_of_ble_eq_true rfl, Nat.le_of_ble_eq_true rfl⟩ ⟨Nat.zero_le _, Nat.zero_le _⟩ dX10_freeWidth_3 (wb' := [k_Atlas g a rnd, k_StO g a 4, k_Places g a 11 (S 6 0) (S 7) (S 8) (S 9) (S 10) (S 11), k_PkO g a 37 (a 4) (a 30), k_Space g a 38 spW spH fr codes counts]) rfl b_e0 5 rfl (by decide) (st2 := [.int r1]) rfl (fun H locs hw => ?_)
  refine lv_if_eq (tgt := 27) hx hb dX10_freeWidth_6 (by decide) (fun hc6 => ?_) (fun hc6 => ?_)
  · rw [if_pos hc6] at h
    refine lv_iconst (v := -1) hx hb dX10_freeWidth_27 (by decide) ?_
    obtain rfl := Option.some.inj h
    exact b_iret hQ hx hb hr hlk hw rfl dX10_freeWidth_28
  · rw [if_neg hc6] at h
    refine lv_aload_n hx hb dX10_freeWidth_9 rfl (lv_at hl 0 rfl) ?_
    refine b_get hx hb hT hK hown fl_X10_62 hw 0 0 rfl rfl (v := .ref (a 37)) rfl dX10_freeWidth_10 ?_
    refine b_get hx hb hT hK hown fl_X10_280 hw 3 0 rfl rfl (v := .ref (a 38)) rfl dX10_freeWidth_13 ?_
    refine lv_iload_n hx hb dX10_freeWidth_16 rfl (lv_at hl 1 rfl) ?_
    refine lv_iload_n hx hb dX10_freeWidth_17 rfl (lv_at hl 2 rfl) ?_
    obtain ⟨r2, er2, h⟩ := g_cl_some h
    refine b_callV hx hb hml hown hT hK hA hw mk_X10_293 (c_X7_codeOf l D g a 38 spW spH fr codes counts i1 i2 r2 er2) [4] [0, 1, 2, 3] rfl (by decide) 4 0 rfl rfl rfl rfl hl.1 [] rfl (Nat.le_of_ble_eq_true rfl) ⟨Nat.le_of_ble_eq_true rfl, Nat.le_of_ble_eq_true rfl⟩ ⟨Nat.zero_le _, Nat.zero_le _⟩ dX10_freeWidth_18 (wb' := [k_Atlas g a rnd, k_StO g a 4, k_Places g a 11 (S 6 0) (S 7) (S 8) (S 9) (S 10) (S 11), k_PkO g a 37 (a 4) (a 30), k_Space g a 38 spW spH fr codes counts]) rfl (b_e1 rfl (b_e1 rfl (b_e1 rfl (b_e1 rfl b_e0)))) 5 rfl (by decide) (st2 := [.int r2]) rfl (fun H locs hw => ?_)
    refine b_callS hx hb hml hown hT hK hA hw mk_X10_303 (c_X7_widthIn l D g r2) [] [0, 1, 2, 3, 4] rfl (by decide) rfl hl.1 [] rfl (Nat.le_of_ble_eq_true rfl) ⟨Nat.le_of_ble_eq_true rfl, Nat.le_of_ble_eq_true rfl⟩ ⟨Nat.zero_le _, Nat.zero_le _⟩ dX10_freeWidth_21 (wb' := [k_Atlas g a rnd, k_StO g a 4, k_Places g a 11 (S 6 0) (S 7) (S 8) (S 9) (S 10) (S 11), k_PkO g a 37 (a 4) (a 30), k_Space g a 38 spW spH fr codes counts]) rfl (b_e1 rfl (b_e1 rfl (b_e1 rfl (b_e1 rfl (b_e1 rfl b_e0))))) 5 rfl (by decide) (st2 := [.int (f_X7_widthIn r2)]) rfl (fun H locs hw => ?_)
    refine lv_goto (tgt := 28) hx hb dX10_freeWidth_24 (by decide) ?_
    obtain rfl := Option.some.inj h
    exact b_iret hQ hx hb hr hlk hw rfl dX10_freeWidth_28
set_option maxRecDepth 100000 in
set_option maxHeartbeats 4000000 in
theorem c_X10_freeHeight (l : Launch) (D : va_G) (g : Nat → ClassId) (a : Nat → Nat) (rnd : Int64) (S : Nat → Nat → Int32) (spW : Int32) (spH : Int32) (fr : (Nat → Int64)) (codes : (Nat → Int32)) (counts : (Nat → Int32)) (i1 : Int32) (i2 : Int32) (u : Int32) (h : f_X10_freeHeight S codes counts i1 i2 = some u) : b_Ct l yX10_freeHeight cX10_freeHeight 3 (some .int) 3 65 D g [.ref (a 0), .int i1, .int i2] [k_Atlas g a rnd, k_StO g a 4, k_Places g a 11 (S 6 0) (S 7) (S 8) (S 9) (S 10) (S 11), k_PkO g a 37 (a 4) (a 30), k_Space g a 38 spW spH fr codes counts] [k_Atlas g a rnd, k_StO g a 4, k_Places g a 11 (S 6 0) (S 7) (S 8) (S 9) (S 10) (S 11), k_PkO g a 37 (a 4) (a 30), k_Space g a 38 spW spH fr codes counts] (some (.int u)) := by
  refine b_start RX10 (by decide) rfl (Nat.le_of_ble_eq_true rfl) rfl ?_
  intro p e s m args below meth c A ls Q hQ hx hb hr hlk hml hown hT hK hA hw hl
  have hl : lv_has ls 3 [(0, .ref (a 0)), (1, .int i1), (2, .int i2)] := hl
  unfold f_X10_freeHeight at h
  refine lv_aload_n hx hb dX10_freeHeight_0 rfl (lv_at hl 0 rfl) ?_
  refine lv_iload_n hx hb dX10_freeHeight_1 rfl (lv_at hl 1 rfl) ?_
  refine lv_iload_n hx hb dX10_freeHeight_2 rfl (lv_at hl 2 rfl) ?_
  obtain ⟨r1, er1, h⟩ := g_cl_some h
  refine b_callV hx hb hml hown hT hK hA hw mk_X10_289 (c_X10_hasFree l D g a rnd S spW spH fr codes counts i1 i2 r1 er1) [0, 1, 2, 3, 4] [] rfl (by decide) 0 0 rfl rfl rfl rfl hl.1 [] rfl (Nat.le_of_ble_eq_true rfl) ⟨Nat.le_of_ble_eq_true rfl, Nat.le_of_ble_eq_true rfl⟩ ⟨Nat.zero_le _, Nat.zero_le _⟩ dX10_freeHeight_3 (wb' := [k_Atlas g a rnd, k_StO g a 4, k_Places g a 11 (S 6 0) (S 7) (S 8) (S 9) (S 10) (S 11), k_PkO g a 37 (a 4) (a 30), k_Space g a 38 spW spH fr codes counts]) rfl b_e0 5 rfl (by decide) (st2 := [.int r1]) rfl (fun H locs hw => ?_)
  refine lv_if_eq (tgt := 27) hx hb dX10_freeHeight_6 (by decide) (fun hc6 => ?_) (fun hc6 => ?_)
  · rw [if_pos hc6] at h
    refine lv_iconst (v := -1) hx hb dX10_freeHeight_27 (by decide) ?_
    obtain rfl := Option.some.inj h
    exact b_iret hQ hx hb hr hlk hw rfl dX10_freeHeight_28
  · rw [if_neg hc6] at h
    refine lv_aload_n hx hb dX10_freeHeight_9 rfl (lv_at hl 0 rfl) ?_
    refine b_get hx hb hT hK hown fl_X10_62 hw 0 0 rfl rfl (v := .ref (a 37)) rfl dX10_freeHeight_10 ?_
    refine b_get hx hb hT hK hown fl_X10_280 hw 3 0 rfl rfl (v := .ref (a 38)) rfl dX10_freeHeight_13 ?_
    refine lv_iload_n hx hb dX10_freeHeight_16 rfl (lv_at hl 1 rfl) ?_
    refine lv_iload_n hx hb dX10_freeHeight_17 rfl (lv_at hl 2 rfl) ?_
    obtain ⟨r2, er2, h⟩ := g_cl_some h
    refine b_callV hx hb hml hown hT hK hA hw mk_X10_293 (c_X7_codeOf l D g a 38 spW spH fr codes counts i1 i2 r2 er2) [4] [0, 1, 2, 3] rfl (by decide) 4 0 rfl rfl rfl rfl hl.1 [] rfl (Nat.le_of_ble_eq_true rfl) ⟨Nat.le_of_ble_eq_true rfl, Nat.le_of_ble_eq_true rfl⟩ ⟨Nat.zero_le _, Nat.zero_le _⟩ dX10_freeHeight_18 (wb' := [k_Atlas g a rnd, k_StO g a 4, k_Places g a 11 (S 6 0) (S 7) (S 8) (S 9) (S 10) (S 11), k_PkO g a 37 (a 4) (a 30), k_Space g a 38 spW spH fr codes counts]) rfl (b_e1 rfl (b_e1 rfl (b_e1 rfl (b_e1 rfl b_e0)))) 5 rfl (by decide) (st2 := [.int r2]) rfl (fun H locs hw => ?_)
    refine b_callS hx hb hml hown hT hK hA hw mk_X10_306 (c_X7_heightIn l D g r2) [] [0, 1, 2, 3, 4] rfl (by decide) rfl hl.1 [] rfl (Nat.le_of_ble_eq_true rfl) ⟨Nat.le_of_ble_eq_true rfl, Nat.le_of_ble_eq_true rfl⟩ ⟨Nat.zero_le _, Nat.zero_le _⟩ dX10_freeHeight_21 (wb' := [k_Atlas g a rnd, k_StO g a 4, k_Places g a 11 (S 6 0) (S 7) (S 8) (S 9) (S 10) (S 11), k_PkO g a 37 (a 4) (a 30), k_Space g a 38 spW spH fr codes counts]) rfl (b_e1 rfl (b_e1 rfl (b_e1 rfl (b_e1 rfl (b_e1 rfl b_e0))))) 5 rfl (by decide) (st2 := [.int (f_X7_heightIn r2)]) rfl (fun H locs hw => ?_)
    refine lv_goto (tgt := 28) hx hb dX10_freeHeight_24 (by decide) ?_
    obtain rfl := Option.some.inj h
    exact b_iret hQ hx hb hr hlk hw rfl dX10_freeHeight_28
set_option maxRecDepth 100000 in
set_option maxHeartbeats 4000000 in
theorem c_X10_commonDivisor (l : Launch) (D : va_G) (g : Nat → ClassId) (i1 : Int32) (i2 : Int32) (u : Int32) (h : f_X10_commonDivisor i1 i2 = some u) : b_Ct l yX10_commonDivisor cX10_commonDivisor 6 (some .int) 1 13 D g [.int i1, .int i2] ([] : List va_W) ([] : List va_W) (some (.int u)) := by
  refine b_start RX10 (by decide) rfl (Nat.le_of_ble_eq_true rfl) rfl ?_
  intro p e s m args below meth c A ls Q hQ hx hb hr hlk hml hown hT hK hA hw hl
  have hl : lv_has ls 6 [(0, .int i1), (1, .int i2)] := hl
  unfold f_X10_commonDivisor at h
  refine lv_iload_n hx hb dX10_commonDivisor_0 rfl (lv_at hl 0 rfl) ?_
  refine lv_istore_n (lv' := [(2, .int i1), (0, .int i1), (1, .int i2)]) hx hb dX10_commonDivisor_1 rfl hl (by decide) rfl (fun ls hl => ?_)
  refine lv_iload_n hx hb dX10_commonDivisor_2 rfl (lv_at hl 2 rfl) ?_
  refine lv_istore_n (lv' := [(3, .int i2), (2, .int i1), (0, .int i1), (1, .int i2)]) hx hb dX10_commonDivisor_3 rfl hl (by decide) rfl (fun ls hl => ?_)
  refine lv_iconst (v := 0) hx hb dX10_commonDivisor_4 (by decide) ?_
  refine lv_istore (lv' := [(4, .int (0 : Int32)), (3, .int i2), (2, .int i1), (0, .int i1), (1, .int i2)]) hx hb dX10_commonDivisor_5 hl (by decide) rfl (fun ls hl => ?_)
  obtain ⟨k34_1, ek34_1, h⟩ := g_jn_nm h
  have hk34_1 : ∀ (x1 : Int32) (H : Heap) (locs : List Loc) (ls : Array Slot), b_Wd D A s.heap H locs ([] : List va_W) → lv_has ls 6 [(2, .int x1)] → k34_1 x1 = some u → W p l e (g_rm 1 13) s m args below meth c H locs 0 0 Q (F0 m 34 ls []) := by
    intro x1 H locs ls hw hl h
    subst ek34_1
    dsimp only at h
    refine lv_iload_n hx hb dX10_commonDivisor_34 rfl (lv_at hl 0 rfl) ?_
    refine lv_iconst (v := 1) hx hb dX10_commonDivisor_35 (by decide) ?_
    refine g_mmax hx hb hml hl.1 hown hT mm_X10_378 (Nat.le_of_ble_eq_true rfl) (Nat.le_of_ble_eq_true rfl) (Nat.zero_le _) (Nat.zero_le _) dX10_commonDivisor_36 ?_
    obtain rfl := Option.some.inj h
    exact b_iret hQ hx hb hr hlk hw rfl dX10_commonDivisor_39
  have hL7 : ∀ (n : Nat) (x3 : Int32) (x4 : Int32) (x5 : Int32) (H : Heap) (locs : List Loc) (ls : Array Slot), b_Wd D A s.heap H locs ([] : List va_W) → lv_has ls 6 [(2, .int x3), (3, .int x4), (4, .int x5)] → f_X10_commonDivisor_L7 k34_1 n x3 x4 x5 = some u → W p l e (g_rm 1 13) s m args below meth c H locs 0 0 Q (F0 m 7 ls []) := by
    intro n
    induction n with
    | zero =>
      intro x3 x4 x5 H locs ls hw hl h
      cases (show none = some u from h)
    | succ n ih7 =>
      intro x3 x4 x5 H locs ls hw hl h
      rw [f_X10_commonDivisor_L7] at h
      refine lv_iload hx hb dX10_commonDivisor_7 (lv_at hl 2 rfl) ?_
      refine lv_bipush (v := 64) hx hb dX10_commonDivisor_9 (by decide) ?_
      refine lv_icmp_ge (tgt := 34) hx hb dX10_commonDivisor_11 (by decide) (fun hc11 => ?_) (fun hc11 => ?_)
      · rw [if_pos hc11] at h
        exact hk34_1 x3 _ _ _ hw (lv_sub hl [0] rfl) h
      · rw [if_neg hc11] at h
        refine lv_iload_n hx hb dX10_commonDivisor_14 rfl (lv_at hl 1 rfl) ?_
        refine lv_if_le (tgt := 34) hx hb dX10_commonDivisor_15 (by decide) (fun hc15 => ?_) (fun hc15 => ?_)
        · rw [if_pos hc15] at h
          exact hk34_1 x3 _ _ _ hw (lv_sub hl [0] rfl) h
        · rw [if_neg hc15] at h
          refine lv_iload_n hx hb dX10_commonDivisor_18 rfl (lv_at hl 0 rfl) ?_
          refine lv_iload_n hx hb dX10_commonDivisor_19 rfl (lv_at hl 1 rfl) ?_
          obtain ⟨z6, h⟩ := g_nz_some h
          refine g_irem hx hb dX10_commonDivisor_20 z6 ?_
          obtain ⟨x7, ex7, h⟩ := g_bd_nm h
          refine g_topi ex7 ?_
          refine lv_istore (lv' := [(5, .int x7), (2, .int x3), (3, .int x4), (4, .int x5)]) hx hb dX10_commonDivisor_21 hl (by decide) rfl (fun ls hl => ?_)
          refine lv_iload_n hx hb dX10_commonDivisor_23 rfl (lv_at hl 2 rfl) ?_
          refine lv_istore_n (lv' := [(2, .int x4), (5, .int x7), (3, .int x4), (4, .int x5)]) hx hb dX10_commonDivisor_24 rfl hl (by decide) rfl (fun ls hl => ?_)
          refine lv_iload hx hb dX10_commonDivisor_25 (lv_at hl 1 rfl) ?_
          refine lv_istore_n (lv' := [(3, .int x7), (2, .int x4), (5, .int x7), (4, .int x5)]) hx hb dX10_commonDivisor_27 rfl hl (by decide) rfl (fun ls hl => ?_)
          obtain ⟨x8, ex8, h⟩ := g_bd_nm h
          refine lv_iinc (v := x8) (lv' := [(4, .int x8), (3, .int x7), (2, .int x4), (5, .int x7)]) hx hb dX10_commonDivisor_28 hl (k := 3) rfl (by rw [ex8]; rfl) (by decide) rfl (fun ls hl => ?_)
          refine lv_goto (tgt := 7) hx hb dX10_commonDivisor_31 (by decide) ?_
          exact ih7 x4 x7 x8 _ _ _ hw (lv_sub hl [2, 1, 0] rfl) h
  exact hL7 g_fuel i1 i2 (0 : Int32) _ _ _ hw (lv_sub hl [2, 1, 0] rfl) h
set_option maxRecDepth 100000 in
set_option maxHeartbeats 4000000 in
theorem c_X10_fill (l : Launch) (D : va_G) (g : Nat → ClassId) (a : Nat → Nat) (rnd : Int64) (S : Nat → Nat → Int32) (lefts : (Nat → Int32)) (tops : (Nat → Int32)) (cwidths : (Nat → Int32)) (cheights : (Nat → Int32)) (originals : (Nat → Int32)) (orients : (Nat → Int32)) (i1 : Int32) (i2 : Int32) (u : Int32) (h : f_X10_fill S cwidths cheights i1 i2 = some u) : b_Ct l yX10_fill cX10_fill 6 (some .int) 2 43 D g [.ref (a 0), .int i1, .int i2] [k_Atlas g a rnd, k_StO g a 4, k_Sheet g a 5 (S 0 0) (S 1) (S 2) (S 3) (S 4), k_Settings g a 10 (S 5 0) (S 5 1) (S 5 2) (S 5 3) (S 5 4) (S 5 5) (S 5 6) (S 5 7) (S 5 8) (S 5 9) (S 5 10) (S 5 11), k_Places g a 11 (S 6 0) (S 7) (S 8) (S 9) (S 10) (S 11), k_Catalog g a 30 lefts tops cwidths cheights originals orients, k_PkO g a 37 (a 4) (a 30)] [k_Atlas g a rnd, k_StO g a 4, k_Sheet g a 5 (S 0 0) (S 1) (S 2) (S 3) (S 4), k_Settings g a 10 (S 5 0) (S 5 1) (S 5 2) (S 5 3) (S 5 4) (S 5 5) (S 5 6) (S 5 7) (S 5 8) (S 5 9) (S 5 10) (S 5 11), k_Places g a 11 (S 6 0) (S 7) (S 8) (S 9) (S 10) (S 11), k_Catalog g a 30 lefts tops cwidths cheights originals orients, k_PkO g a 37 (a 4) (a 30)] (some (.int u)) := by
  refine b_start RX10 (by decide) rfl (Nat.le_of_ble_eq_true rfl) rfl ?_
  intro p e s m args below meth c A ls Q hQ hx hb hr hlk hml hown hT hK hA hw hl
  have hl : lv_has ls 6 [(0, .ref (a 0)), (1, .int i1), (2, .int i2)] := hl
  unfold f_X10_fill at h
  refine lv_aload_n hx hb dX10_fill_0 rfl (lv_at hl 0 rfl) ?_
  refine lv_iload_n hx hb dX10_fill_1 rfl (lv_at hl 1 rfl) ?_
  obtain ⟨r1, er1, h⟩ := g_cl_some h
  refine b_callV hx hb hml hown hT hK hA hw mk_X10_271 (c_X10_hasPage l D g a rnd S i1 r1 er1) [0, 1, 4] [2, 3, 5, 6] rfl (by decide) 0 0 rfl rfl rfl rfl hl.1 [] rfl (Nat.le_of_ble_eq_true rfl) ⟨Nat.le_of_ble_eq_true rfl, Nat.le_of_ble_eq_true rfl⟩ ⟨Nat.zero_le _, Nat.zero_le _⟩ dX10_fill_2 (wb' := [k_Atlas g a rnd, k_StO g a 4, k_Sheet g a 5 (S 0 0) (S 1) (S 2) (S 3) (S 4), k_Settings g a 10 (S 5 0) (S 5 1) (S 5 2) (S 5 3) (S 5 4) (S 5 5) (S 5 6) (S 5 7) (S 5 8) (S 5 9) (S 5 10) (S 5 11), k_Places g a 11 (S 6 0) (S 7) (S 8) (S 9) (S 10) (S 11), k_Catalog g a 30 lefts tops cwidths cheights originals orients, k_PkO g a 37 (a 4) (a 30)]) rfl (b_e1 rfl (b_e1 rfl (b_e1 rfl (b_e1 rfl b_e0)))) 7 rfl (by decide) (st2 := [.int r1]) rfl (fun H locs hw => ?_)
  refine lv_if_ne (tgt := 10) hx hb dX10_fill_5 (by decide) (fun hc5 => ?_) (fun hc5 => ?_)
  · rw [if_neg hc5] at h
    refine lv_aload_n hx hb dX10_fill_10 rfl (lv_at hl 0 rfl) ?_
    refine b_get hx hb hT hK hown fl_X10_62 hw 0 0 rfl rfl (v := .ref (a 37)) rfl dX10_fill_11 ?_
    refine lv_iload_n hx hb dX10_fill_14 rfl (lv_at hl 1 rfl) ?_
    obtain ⟨r2, er2, h⟩ := g_cl_some h
    refine b_callV hx hb hml hown hT hK hA hw mk_X10_309 (c_X3_imagePixels l D g a 37 a 4 a 30 S lefts tops cwidths cheights originals orients i1 r2 er2) [6, 1, 2, 4, 5] [0, 3] rfl (by decide) 6 0 rfl rfl rfl rfl hl.1 [] rfl (Nat.le_of_ble_eq_true rfl) ⟨Nat.le_of_ble_eq_true rfl, Nat.le_of_ble_eq_true rfl⟩ ⟨Nat.zero_le _, Nat.zero_le _⟩ dX10_fill_15 (wb' := [k_Atlas g a rnd, k_StO g a 4, k_Sheet g a 5 (S 0 0) (S 1) (S 2) (S 3) (S 4), k_Settings g a 10 (S 5 0) (S 5 1) (S 5 2) (S 5 3) (S 5 4) (S 5 5) (S 5 6) (S 5 7) (S 5 8) (S 5 9) (S 5 10) (S 5 11), k_Places g a 11 (S 6 0) (S 7) (S 8) (S 9) (S 10) (S 11), k_Catalog g a 30 lefts tops cwidths cheights originals orients, k_PkO g a 37 (a 4) (a 30)]) rfl (b_e1 rfl (b_e1 rfl b_e0)) 7 rfl (by decide) (st2 := [.int r2]) rfl (fun H locs hw => ?_)
    refine lv_istore_n (lv' := [(3, .int r2), (0, .ref (a 0)), (1, .int i1), (2, .int i2)]) hx hb dX10_fill_18 rfl hl (by decide) rfl (fun ls hl => ?_)
    refine lv_aload_n hx hb dX10_fill_19 rfl (lv_at hl 1 rfl) ?_
    refine b_get hx hb hT hK hown fl_X10_47 hw 0 0 rfl rfl (v := .ref (a 4)) rfl dX10_fill_20 ?_
    refine b_get hx hb hT hK hown fl_X10_105 hw 1 0 rfl rfl (v := .ref (a 10)) rfl dX10_fill_23 ?_
    refine b_get hx hb hT hK hown fl_X10_165 hw 3 0 rfl rfl (v := .int (S 5 0)) rfl dX10_fill_26 ?_
    refine lv_aload_n hx hb dX10_fill_29 rfl (lv_at hl 1 rfl) ?_
    refine b_get hx hb hT hK hown fl_X10_47 hw 0 0 rfl rfl (v := .ref (a 4)) rfl dX10_fill_30 ?_
    refine b_get hx hb hT hK hown fl_X10_105 hw 1 0 rfl rfl (v := .ref (a 10)) rfl dX10_fill_33 ?_
    refine b_get hx hb hT hK hown fl_X10_170 hw 3 0 rfl rfl (v := .int (S 5 1)) rfl dX10_fill_36 ?_
    refine lv_imul hx hb dX10_fill_39 ?_
    obtain ⟨x3, ex3, h⟩ := g_bd_nm h
    refine g_topi ex3 ?_
    refine lv_istore (lv' := [(4, .int x3), (3, .int r2), (0, .ref (a 0)), (1, .int i1), (2, .int i2)]) hx hb dX10_fill_40 hl (by decide) rfl (fun ls hl => ?_)
    refine lv_iload hx hb dX10_fill_42 (lv_at hl 0 rfl) ?_
    refine lv_iload_n hx hb dX10_fill_44 rfl (lv_at hl 1 rfl) ?_
    obtain ⟨r4, er4, h⟩ := g_cl_some h
    refine b_callS hx hb hml hown hT hK hA hw mk_X10_312 (c_X10_commonDivisor l D g x3 r2 r4 er4) [] [0, 1, 2, 3, 4, 5, 6] rfl (by decide) rfl hl.1 [] rfl (Nat.le_of_ble_eq_true rfl) ⟨Nat.le_of_ble_eq_true rfl, Nat.le_of_ble_eq_true rfl⟩ ⟨Nat.zero_le _, Nat.zero_le _⟩ dX10_fill_45 (wb' := [k_Atlas g a rnd, k_StO g a 4, k_Sheet g a 5 (S 0 0) (S 1) (S 2) (S 3) (S 4), k_Settings g a 10 (S 5 0) (S 5 1) (S 5 2) (S 5 3) (S 5 4) (S 5 5) (S 5 6) (S 5 7) (S 5 8) (S 5 9) (S 5 10) (S 5 11), k_Places g a 11 (S 6 0) (S 7) (S 8) (S 9) (S 10) (S 11), k_Catalog g a 30 lefts tops cwidths cheights originals orients, k_PkO g a 37 (a 4) (a 30)]) rfl (b_e1 rfl (b_e1 rfl (b_e1 rfl (b_e1 rfl (b_e1 rfl (b_e1 rfl (b_e1 rfl b_e0))))))) 7 rfl (by decide) (st2 := [.int r4]) rfl (fun H locs hw => ?_)
    refine lv_istore (lv' := [(5, .int r4), (4, .int x3), (3, .int r2), (0, .ref (a 0)), (1, .int i1), (2, .int i2)]) hx hb dX10_fill_48 hl (by decide) rfl (fun ls hl => ?_)
    refine lv_iload_n hx hb dX10_fill_50 rfl (lv_at hl 5 rfl) ?_
    obtain ⟨j60_5, ej60_5, h⟩ := g_bd_k h
    have hj60_5 : ∀ (x5 : Int32) (H : Heap) (locs : List Loc) (ls : Array Slot), b_Wd D A s.heap H locs [k_Atlas g a rnd, k_StO g a 4, k_Sheet g a 5 (S 0 0) (S 1) (S 2) (S 3) (S 4), k_Settings g a 10 (S 5 0) (S 5 1) (S 5 2) (S 5 3) (S 5 4) (S 5 5) (S 5 6) (S 5 7) (S 5 8) (S 5 9) (S 5 10) (S 5 11), k_Places g a 11 (S 6 0) (S 7) (S 8) (S 9) (S 10) (S 11), k_Catalog g a 30 lefts tops cwidths cheights originals orients, k_PkO g a 37 (a 4) (a 30)] → lv_has ls 6 [(5, .int r4)] → j60_5 x5 = some u → W p l e (g_rm 2 43) s m args below meth c H locs 0 0 Q (F0 m 60 ls [.int x5]) := by
      intro x5 H locs ls hw hl h
      subst ej60_5
      dsimp only at h
      refine lv_iload hx hb dX10_fill_60 (lv_at hl 0 rfl) ?_
      obtain ⟨z6, h⟩ := g_nz_some h
      refine lv_idiv hx hb dX10_fill_62 z6 ?_
      obtain rfl := Option.some.inj h
      exact b_iret hQ hx hb hr hlk hw rfl dX10_fill_63
    refine lv_if_eq (tgt := 59) hx hb dX10_fill_51 (by decide) (fun hc51 => ?_) (fun hc51 => ?_)
    · rw [if_pos hc51] at h
      refine lv_iload_n hx hb dX10_fill_59 rfl (lv_at hl 2 rfl) ?_
      exact hj60_5 r2 _ _ _ hw (lv_sub hl [0] rfl) h
    · rw [if_neg hc51] at h
      refine lv_iload hx hb dX10_fill_54 (lv_at hl 1 rfl) ?_
      refine lv_goto (tgt := 60) hx hb dX10_fill_56 (by decide) ?_
      exact hj60_5 x3 _ _ _ hw (lv_sub hl [0] rfl) h
  · rw [if_pos hc5] at h
    refine lv_iconst (v := -1) hx hb dX10_fill_8 (by decide) ?_
    obtain rfl := Option.some.inj h
    exact b_iret hQ hx hb hr hlk hw rfl dX10_fill_9
set_option maxRecDepth 100000 in
set_option maxHeartbeats 4000000 in
theorem c_X10_unplaced (l : Launch) (D : va_G) (g : Nat → ClassId) (a : Nat → Nat) (rnd : Int64) (S : Nat → Nat → Int32) (lefts : (Nat → Int32)) (tops : (Nat → Int32)) (cwidths : (Nat → Int32)) (cheights : (Nat → Int32)) (originals : (Nat → Int32)) (orients : (Nat → Int32)) (u : Int32) (h : f_X10_unplaced S cwidths originals = some u) : b_Ct l yX10_unplaced cX10_unplaced 3 (some .int) 2 42 D g [.ref (a 0)] [k_Atlas g a rnd, k_StO g a 4, k_Sheet g a 5 (S 0 0) (S 1) (S 2) (S 3) (S 4), k_Places g a 11 (S 6 0) (S 7) (S 8) (S 9) (S 10) (S 11), k_Catalog g a 30 lefts tops cwidths cheights originals orients] [k_Atlas g a rnd, k_StO g a 4, k_Sheet g a 5 (S 0 0) (S 1) (S 2) (S 3) (S 4), k_Places g a 11 (S 6 0) (S 7) (S 8) (S 9) (S 10) (S 11), k_Catalog g a 30 lefts tops cwidths cheights originals orients] (some (.int u)) := by
  refine b_start RX10 (by decide) rfl (Nat.le_of_ble_eq_true rfl) rfl ?_
  intro p e s m args below meth c A ls Q hQ hx hb hr hlk hml hown hT hK hA hw hl
  have hl : lv_has ls 3 [(0, .ref (a 0))] := hl
  unfold f_X10_unplaced at h
  refine lv_iconst (v := 0) hx hb dX10_unplaced_0 (by decide) ?_
  refine lv_istore_n (lv' := [(1, .int (0 : Int32)), (0, .ref (a 0))]) hx hb dX10_unplaced_1 rfl hl (by decide) rfl (fun ls hl => ?_)
  refine lv_iconst (v := 0) hx hb dX10_unplaced_2 (by decide) ?_
  refine lv_istore_n (lv' := [(2, .int (0 : Int32)), (1, .int (0 : Int32)), (0, .ref (a 0))]) hx hb dX10_unplaced_3 rfl hl (by decide) rfl (fun ls hl => ?_)
  have hL4 : ∀ (n : Nat) (x1 : Int32) (x2 : Int32) (H : Heap) (locs : List Loc) (ls : Array Slot), b_Wd D A s.heap H locs [k_Atlas g a rnd, k_StO g a 4, k_Sheet g a 5 (S 0 0) (S 1) (S 2) (S 3) (S 4), k_Places g a 11 (S 6 0) (S 7) (S 8) (S 9) (S 10) (S 11), k_Catalog g a 30 lefts tops cwidths cheights originals orients] → lv_has ls 3 [(0, .ref (a 0)), (1, .int x1), (2, .int x2)] → f_X10_unplaced_L4 S cwidths originals n x1 x2 = some u → W p l e (g_rm 2 42) s m args below meth c H locs 0 0 Q (F0 m 4 ls []) := by
    intro n
    induction n with
    | zero =>
      intro x1 x2 H locs ls hw hl h
      cases (show none = some u from h)
    | succ n ih4 =>
      intro x1 x2 H locs ls hw hl h
      rw [f_X10_unplaced_L4] at h
      refine lv_iload_n hx hb dX10_unplaced_4 rfl (lv_at hl 2 rfl) ?_
      refine lv_aload_n hx hb dX10_unplaced_5 rfl (lv_at hl 0 rfl) ?_
      refine b_get hx hb hT hK hown fl_X10_47 hw 0 0 rfl rfl (v := .ref (a 4)) rfl dX10_unplaced_6 ?_
      refine b_get hx hb hT hK hown fl_X10_85 hw 1 0 rfl rfl (v := .ref (a 5)) rfl dX10_unplaced_9 ?_
      refine b_get hx hb hT hK hown fl_X10_89 hw 2 0 rfl rfl (v := .int (S 0 0)) rfl dX10_unplaced_12 ?_
      refine lv_icmp_ge (tgt := 55) hx hb dX10_unplaced_15 (by decide) (fun hc15 => ?_) (fun hc15 => ?_)
      · rw [if_pos hc15] at h
        refine lv_iload_n hx hb dX10_unplaced_55 rfl (lv_at hl 1 rfl) ?_
        obtain rfl := Option.some.inj h
        exact b_iret hQ hx hb hr hlk hw rfl dX10_unplaced_56
      · rw [if_neg hc15] at h
        refine lv_aload_n hx hb dX10_unplaced_18 rfl (lv_at hl 0 rfl) ?_
        refine b_get hx hb hT hK hown fl_X10_53 hw 0 0 rfl rfl (v := .ref (a 30)) rfl dX10_unplaced_19 ?_
        refine lv_iload_n hx hb dX10_unplaced_22 rfl (lv_at hl 2 rfl) ?_
        obtain ⟨r3, er3, h⟩ := g_cl_some h
        refine b_callV hx hb hml hown hT hK hA hw mk_X10_211 (c_X0_isOriginal l D g a 30 lefts tops cwidths cheights originals orients x2 r3 er3) [4] [0, 1, 2, 3] rfl (by decide) 4 0 rfl rfl rfl rfl hl.1 [] rfl (Nat.le_of_ble_eq_true rfl) ⟨Nat.le_of_ble_eq_true rfl, Nat.le_of_ble_eq_true rfl⟩ ⟨Nat.zero_le _, Nat.zero_le _⟩ dX10_unplaced_23 (wb' := [k_Atlas g a rnd, k_StO g a 4, k_Sheet g a 5 (S 0 0) (S 1) (S 2) (S 3) (S 4), k_Places g a 11 (S 6 0) (S 7) (S 8) (S 9) (S 10) (S 11), k_Catalog g a 30 lefts tops cwidths cheights originals orients]) rfl (b_e1 rfl (b_e1 rfl (b_e1 rfl (b_e1 rfl b_e0)))) 5 rfl (by decide) (st2 := [.int r3]) rfl (fun H locs hw => ?_)
        obtain ⟨j49_4, ej49_4, h⟩ := g_jn_nm h
        have hj49_4 : ∀ (x4 : Int32) (H : Heap) (locs : List Loc) (ls : Array Slot), b_Wd D A s.heap H locs [k_Atlas g a rnd, k_StO g a 4, k_Sheet g a 5 (S 0 0) (S 1) (S 2) (S 3) (S 4), k_Places g a 11 (S 6 0) (S 7) (S 8) (S 9) (S 10) (S 11), k_Catalog g a 30 lefts tops cwidths cheights originals orients] → lv_has ls 3 [(0, .ref (a 0)), (1, .int x4), (2, .int x2)] → j49_4 x4 = some u → W p l e (g_rm 2 42) s m args below meth c H locs 0 0 Q (F0 m 49 ls []) := by
          intro x4 H locs ls hw hl h
          subst ej49_4
          dsimp only at h
          obtain ⟨x6, ex6, h⟩ := g_bd_nm h
          refine lv_iinc (v := x6) (lv' := [(2, .int x6), (0, .ref (a 0)), (1, .int x4)]) hx hb dX10_unplaced_49 hl (k := 2) rfl (by rw [ex6]; rfl) (by decide) rfl (fun ls hl => ?_)
          refine lv_goto (tgt := 4) hx hb dX10_unplaced_52 (by decide) ?_
          exact ih4 x4 x6 _ _ _ hw (lv_sub hl [1, 2, 0] rfl) h
        refine lv_if_eq (tgt := 49) hx hb dX10_unplaced_26 (by decide) (fun hc26 => ?_) (fun hc26 => ?_)
        · rw [if_pos hc26] at h
          exact hj49_4 x1 _ _ _ hw (lv_sub hl [0, 1, 2] rfl) h
        · rw [if_neg hc26] at h
          refine lv_aload_n hx hb dX10_unplaced_29 rfl (lv_at hl 0 rfl) ?_
          refine b_get hx hb hT hK hown fl_X10_47 hw 0 0 rfl rfl (v := .ref (a 4)) rfl dX10_unplaced_30 ?_
          refine b_get hx hb hT hK hown fl_X10_214 hw 1 0 rfl rfl (v := .ref (a 11)) rfl dX10_unplaced_33 ?_
          refine b_get hx hb hT hK hown fl_X10_218 hw 3 0 rfl rfl (v := .ref (a 13)) rfl dX10_unplaced_36 ?_
          refine lv_iload_n hx hb dX10_unplaced_39 rfl (lv_at hl 2 rfl) ?_
          obtain ⟨x7, ex7, hix7, h⟩ := g_rd_some h
          refine b_iald hx hb hK hw 3 2 rfl (f := (S 8)) rfl hix7 ex7 dX10_unplaced_40 ?_
          refine lv_bipush (v := -4) hx hb dX10_unplaced_41 (by decide) ?_
          refine lv_icmp_ne (tgt := 49) hx hb dX10_unplaced_43 (by decide) (fun hc43 => ?_) (fun hc43 => ?_)
          · rw [if_neg hc43] at h
            exact hj49_4 x1 _ _ _ hw (lv_sub hl [0, 1, 2] rfl) h
          · rw [if_pos hc43] at h
            obtain ⟨x8, ex8, h⟩ := g_bd_nm h
            refine lv_iinc (v := x8) (lv' := [(1, .int x8), (0, .ref (a 0)), (2, .int x2)]) hx hb dX10_unplaced_46 hl (k := 1) rfl (by rw [ex8]; rfl) (by decide) rfl (fun ls hl => ?_)
            exact hj49_4 x8 _ _ _ hw (lv_sub hl [1, 0, 2] rfl) h
  exact hL4 g_fuel (0 : Int32) (0 : Int32) _ _ _ hw (lv_sub hl [2, 1, 0] rfl) h
set_option maxRecDepth 100000 in
set_option maxHeartbeats 4000000 in
theorem c_X10_pageBound (l : Launch) (D : va_G) (g : Nat → ClassId) (a : Nat → Nat) (rnd : Int64) (S : Nat → Nat → Int32) (lefts : (Nat → Int32)) (tops : (Nat → Int32)) (cwidths : (Nat → Int32)) (cheights : (Nat → Int32)) (originals : (Nat → Int32)) (orients : (Nat → Int32)) (u : Int32) (h : f_X10_pageBound S cwidths cheights originals = some u) : b_Ct l yX10_pageBound cX10_pageBound 3 (some .int) 3 64 D g [.ref (a 0)] [k_Atlas g a rnd, k_StO g a 4, k_Sheet g a 5 (S 0 0) (S 1) (S 2) (S 3) (S 4), k_Settings g a 10 (S 5 0) (S 5 1) (S 5 2) (S 5 3) (S 5 4) (S 5 5) (S 5 6) (S 5 7) (S 5 8) (S 5 9) (S 5 10) (S 5 11), k_Catalog g a 30 lefts tops cwidths cheights originals orients, k_PkO g a 37 (a 4) (a 30)] [k_Atlas g a rnd, k_StO g a 4, k_Sheet g a 5 (S 0 0) (S 1) (S 2) (S 3) (S 4), k_Settings g a 10 (S 5 0) (S 5 1) (S 5 2) (S 5 3) (S 5 4) (S 5 5) (S 5 6) (S 5 7) (S 5 8) (S 5 9) (S 5 10) (S 5 11), k_Catalog g a 30 lefts tops cwidths cheights originals orients, k_PkO g a 37 (a 4) (a 30)] (some (.int u)) := by
  refine b_start RX10 (by decide) rfl (Nat.le_of_ble_eq_true rfl) rfl ?_
  intro p e s m args below meth c A ls Q hQ hx hb hr hlk hml hown hT hK hA hw hl
  have hl : lv_has ls 3 [(0, .ref (a 0))] := hl
  unfold f_X10_pageBound at h
  refine lv_aload_n hx hb dX10_pageBound_0 rfl (lv_at hl 0 rfl) ?_
  refine b_get hx hb hT hK hown fl_X10_62 hw 0 0 rfl rfl (v := .ref (a 37)) rfl dX10_pageBound_1 ?_
  obtain ⟨r1, er1, h⟩ := g_cl_some h
  refine b_callV hx hb hml hown hT hK hA hw mk_X10_315 (c_X3_boxPositions l D g a 37 a 4 a 30 S lefts tops cwidths cheights originals orients r1 er1) [5, 1, 2, 3, 4] [0] rfl (by decide) 5 0 rfl rfl rfl rfl hl.1 [] rfl (Nat.le_of_ble_eq_true rfl) ⟨Nat.le_of_ble_eq_true rfl, Nat.le_of_ble_eq_true rfl⟩ ⟨Nat.zero_le _, Nat.zero_le _⟩ dX10_pageBound_4 (wb' := [k_Atlas g a rnd, k_StO g a 4, k_Sheet g a 5 (S 0 0) (S 1) (S 2) (S 3) (S 4), k_Settings g a 10 (S 5 0) (S 5 1) (S 5 2) (S 5 3) (S 5 4) (S 5 5) (S 5 6) (S 5 7) (S 5 8) (S 5 9) (S 5 10) (S 5 11), k_Catalog g a 30 lefts tops cwidths cheights originals orients, k_PkO g a 37 (a 4) (a 30)]) rfl (b_e1 rfl b_e0) 6 rfl (by decide) (st2 := [.int r1]) rfl (fun H locs hw => ?_)
  refine lv_istore_n (lv' := [(1, .int r1), (0, .ref (a 0))]) hx hb dX10_pageBound_7 rfl hl (by decide) rfl (fun ls hl => ?_)
  refine lv_iload_n hx hb dX10_pageBound_8 rfl (lv_at hl 0 rfl) ?_
  refine lv_if_ne (tgt := 14) hx hb dX10_pageBound_9 (by decide) (fun hc9 => ?_) (fun hc9 => ?_)
  · rw [if_neg hc9] at h
    refine lv_aload_n hx hb dX10_pageBound_14 rfl (lv_at hl 1 rfl) ?_
    refine b_get hx hb hT hK hown fl_X10_47 hw 0 0 rfl rfl (v := .ref (a 4)) rfl dX10_pageBound_15 ?_
    refine b_get hx hb hT hK hown fl_X10_105 hw 1 0 rfl rfl (v := .ref (a 10)) rfl dX10_pageBound_18 ?_
    refine b_callV hx hb hml hown hT hK hA hw mk_X10_318 (c_X5_fieldPositions l D g a 10 (S 5 0) (S 5 1) (S 5 2) (S 5 3) (S 5 4) (S 5 5) (S 5 6) (S 5 7) (S 5 8) (S 5 9) (S 5 10) (S 5 11)) [3] [0, 1, 2, 4, 5] rfl (by decide) 3 0 rfl rfl rfl rfl hl.1 [] rfl (Nat.le_of_ble_eq_true rfl) ⟨Nat.le_of_ble_eq_true rfl, Nat.le_of_ble_eq_true rfl⟩ ⟨Nat.zero_le _, Nat.zero_le _⟩ dX10_pageBound_21 (wb' := [k_Atlas g a rnd, k_StO g a 4, k_Sheet g a 5 (S 0 0) (S 1) (S 2) (S 3) (S 4), k_Settings g a 10 (S 5 0) (S 5 1) (S 5 2) (S 5 3) (S 5 4) (S 5 5) (S 5 6) (S 5 7) (S 5 8) (S 5 9) (S 5 10) (S 5 11), k_Catalog g a 30 lefts tops cwidths cheights originals orients, k_PkO g a 37 (a 4) (a 30)]) rfl (b_e1 rfl (b_e1 rfl (b_e1 rfl (b_e1 rfl (b_e1 rfl b_e0))))) 6 rfl (by decide) (st2 := [.int (f_X5_fieldPositions (S 5 0) (S 5 1) (S 5 3) (S 5 4))]) rfl (fun H locs hw => ?_)
    obtain ⟨x2, ex2, h⟩ := g_bd_nm h
    refine g_topi ex2 ?_
    refine lv_istore_n (lv' := [(2, .int x2), (1, .int r1), (0, .ref (a 0))]) hx hb dX10_pageBound_24 rfl hl (by decide) rfl (fun ls hl => ?_)
    refine lv_iload_n hx hb dX10_pageBound_25 rfl (lv_at hl 0 rfl) ?_
    refine lv_if_ne (tgt := 34) hx hb dX10_pageBound_26 (by decide) (fun hc26 => ?_) (fun hc26 => ?_)
    · rw [if_neg hc26] at h
      refine lv_iload_n hx hb dX10_pageBound_34 rfl (lv_at hl 1 rfl) ?_
      refine lv_iload_n hx hb dX10_pageBound_35 rfl (lv_at hl 0 rfl) ?_
      refine lv_iadd hx hb dX10_pageBound_36 ?_
      refine lv_iconst (v := 1) hx hb dX10_pageBound_37 (by decide) ?_
      refine lv_isub hx hb dX10_pageBound_38 ?_
      refine lv_iload_n hx hb dX10_pageBound_39 rfl (lv_at hl 0 rfl) ?_
      obtain ⟨z3, h⟩ := g_nz_some h
      refine lv_idiv hx hb dX10_pageBound_40 z3 ?_
      obtain rfl := Option.some.inj h
      exact b_iret hQ hx hb hr hlk hw rfl dX10_pageBound_41
    · rw [if_pos hc26] at h
      refine lv_bipush (v := -4) hx hb dX10_pageBound_29 (by decide) ?_
      refine lv_goto (tgt := 41) hx hb dX10_pageBound_31 (by decide) ?_
      obtain rfl := Option.some.inj h
      exact b_iret hQ hx hb hr hlk hw rfl dX10_pageBound_41
  · rw [if_pos hc9] at h
    refine lv_iconst (v := 0) hx hb dX10_pageBound_12 (by decide) ?_
    obtain rfl := Option.some.inj h
    exact b_iret hQ hx hb hr hlk hw rfl dX10_pageBound_13
