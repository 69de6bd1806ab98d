set_option maxRecDepth 100000 in
set_option maxHeartbeats 4000000 in
theorem c_X10_undo (l : Launch) (D : va_G) (g : Nat → ClassId) (a : Nat → Nat) (rnd : Int64) (S : Nat → Nat → Int32) (lefts : (Nat → Int32)) (tops : (Nat → Int32)) (cwidths : (Nat → Int32)) (cheights : (Nat → Int32)) (originals : (Nat → Int32)) (orients : (Nat → Int32)) (spW : Int32) (spH : Int32) (fr : (Nat → Int64)) (codes : (Nat → Int32)) (counts : (Nat → Int32)) (hLatest : Int32) (hCount : Int32) (H0 : Nat → Nat → Int32) (H1 : Nat → Nat → Int32) (H2 : Nat → Nat → Int32) (H3 : Nat → Nat → Int32) (H4 : Nat → Nat → Int32) (u : Int32 × (Nat → Nat → Int32) × (Nat → Int32) × (Nat → Int32) × (Nat → Int32) × (Nat → Int32) × (Nat → Int32) × (Nat → Int32) × Int32 × Int32 × (Nat → Int64) × (Nat → Int32) × (Nat → Int32) × Int32 × Int32) (h : f_X10_undo S lefts tops cwidths cheights originals orients spW spH fr codes counts hLatest hCount H0 H1 H2 H3 H4 = some u) : b_Ct l yX10_undo cX10_undo 1 (some .int) 6 152 D g [.ref (a 0)] [k_Atlas g a rnd, k_StO g a 4, k_Sheet g a 5 (S 0 0) (S 1) (S 2) (S 3) (S 4), k_Settings g a 10 (S 5 0) (S 5 1) (S 5 2) (S 5 3) (S 5 4) (S 5 5) (S 5 6) (S 5 7) (S 5 8) (S 5 9) (S 5 10) (S 5 11), k_Places g a 11 (S 6 0) (S 7) (S 8) (S 9) (S 10) (S 11), k_Catalog g a 30 lefts tops cwidths cheights originals orients, k_PkO g a 37 (a 4) (a 30), k_Space g a 38 spW spH fr codes counts, k_Hist g a 51 hLatest hCount, k_StO g a 53, k_Sheet g a 54 (H0 0 0) (H0 1) (H0 2) (H0 3) (H0 4), k_Settings g a 59 (H0 5 0) (H0 5 1) (H0 5 2) (H0 5 3) (H0 5 4) (H0 5 5) (H0 5 6) (H0 5 7) (H0 5 8) (H0 5 9) (H0 5 10) (H0 5 11), k_Places g a 60 (H0 6 0) (H0 7) (H0 8) (H0 9) (H0 10) (H0 11), k_StO g a 66, k_Sheet g a 67 (H1 0 0) (H1 1) (H1 2) (H1 3) (H1 4), k_Settings g a 72 (H1 5 0) (H1 5 1) (H1 5 2) (H1 5 3) (H1 5 4) (H1 5 5) (H1 5 6) (H1 5 7) (H1 5 8) (H1 5 9) (H1 5 10) (H1 5 11), k_Places g a 73 (H1 6 0) (H1 7) (H1 8) (H1 9) (H1 10) (H1 11), k_StO g a 79, k_Sheet g a 80 (H2 0 0) (H2 1) (H2 2) (H2 3) (H2 4), k_Settings g a 85 (H2 5 0) (H2 5 1) (H2 5 2) (H2 5 3) (H2 5 4) (H2 5 5) (H2 5 6) (H2 5 7) (H2 5 8) (H2 5 9) (H2 5 10) (H2 5 11), k_Places g a 86 (H2 6 0) (H2 7) (H2 8) (H2 9) (H2 10) (H2 11), k_StO g a 92, k_Sheet g a 93 (H3 0 0) (H3 1) (H3 2) (H3 3) (H3 4), k_Settings g a 98 (H3 5 0) (H3 5 1) (H3 5 2) (H3 5 3) (H3 5 4) (H3 5 5) (H3 5 6) (H3 5 7) (H3 5 8) (H3 5 9) (H3 5 10) (H3 5 11), k_Places g a 99 (H3 6 0) (H3 7) (H3 8) (H3 9) (H3 10) (H3 11), k_StO g a 105, k_Sheet g a 106 (H4 0 0) (H4 1) (H4 2) (H4 3) (H4 4), k_Settings g a 111 (H4 5 0) (H4 5 1) (H4 5 2) (H4 5 3) (H4 5 4) (H4 5 5) (H4 5 6) (H4 5 7) (H4 5 8) (H4 5 9) (H4 5 10) (H4 5 11), k_Places g a 112 (H4 6 0) (H4 7) (H4 8) (H4 9) (H4 10) (H4 11)] [k_Atlas g a rnd, k_StO g a 4, k_Sheet g a 5 (u.2.1 0 0) (u.2.1 1) (u.2.1 2) (u.2.1 3) (u.2.1 4), k_Settings g a 10 (u.2.1 5 0) (u.2.1 5 1) (u.2.1 5 2) (u.2.1 5 3) (u.2.1 5 4) (u.2.1 5 5) (u.2.1 5 6) (u.2.1 5 7) (u.2.1 5 8) (u.2.1 5 9) (u.2.1 5 10) (u.2.1 5 11), k_Places g a 11 (u.2.1 6 0) (u.2.1 7) (u.2.1 8) (u.2.1 9) (u.2.1 10) (u.2.1 11), k_Catalog g a 30 u.2.2.1 u.2.2.2.1 u.2.2.2.2.1 u.2.2.2.2.2.1 u.2.2.2.2.2.2.1 u.2.2.2.2.2.2.2.1, k_PkO g a 37 (a 4) (a 30), k_Space g a 38 u.2.2.2.2.2.2.2.2.1 u.2.2.2.2.2.2.2.2.2.1 u.2.2.2.2.2.2.2.2.2.2.1 u.2.2.2.2.2.2.2.2.2.2.2.1 u.2.2.2.2.2.2.2.2.2.2.2.2.1, k_Hist g a 51 u.2.2.2.2.2.2.2.2.2.2.2.2.2.1 u.2.2.2.2.2.2.2.2.2.2.2.2.2.2, k_StO g a 53, k_Sheet g a 54 (H0 0 0) (H0 1) (H0 2) (H0 3) (H0 4), k_Settings g a 59 (H0 5 0) (H0 5 1) (H0 5 2) (H0 5 3) (H0 5 4) (H0 5 5) (H0 5 6) (H0 5 7) (H0 5 8) (H0 5 9) (H0 5 10) (H0 5 11), k_Places g a 60 (H0 6 0) (H0 7) (H0 8) (H0 9) (H0 10) (H0 11), k_StO g a 66, k_Sheet g a 67 (H1 0 0) (H1 1) (H1 2) (H1 3) (H1 4), k_Settings g a 72 (H1 5 0) (H1 5 1) (H1 5 2) (H1 5 3) (H1 5 4) (H1 5 5) (H1 5 6) (H1 5 7) (H1 5 8) (H1 5 9) (H1 5 10) (H1 5 11), k_Places g a 73 (H1 6 0) (H1 7) (H1 8) (H1 9) (H1 10) (H1 11), k_StO g a 79, k_Sheet g a 80 (H2 0 0) (H2 1) (H2 2) (H2 3) (H2 4), k_Settings g a 85 (H2 5 0) (H2 5 1) (H2 5 2) (H2 5 3) (H2 5 4) (H2 5 5) (H2 5 6) (H2 5 7) (H2 5 8) (H2 5 9) (H2 5 10) (H2 5 11), k_Places g a 86 (H2 6 0) (H2 7) (H2 8) (H2 9) (H2 10) (H2 11), k_StO g a 92, k_Sheet g a 93 (H3 0 0) (H3 1) (H3 2) (H3 3) (H3 4), k_Settings g a 98 (H3 5 0) (H3 5 1) (H3 5 2) (H3 5 3) (H3 5 4) (H3 5 5) (H3 5 6) (H3 5 7) (H3 5 8) (H3 5 9) (H3 5 10) (H3 5 11), k_Places g a 99 (H3 6 0) (H3 7) (H3 8) (H3 9) (H3 10) (H3 11), k_StO g a 105, k_Sheet g a 106 (H4 0 0) (H4 1) (H4 2) (H4 3) (H4 4), k_Settings g a 111 (H4 5 0) (H4 5 1) (H4 5 2) (H4 5 3) (H4 5 4) (H4 5 5) (H4 5 6) (H4 5 7) (H4 5 8) (H4 5 9) (H4 5 10) (H4 5 11), k_Places g a 112 (H4 6 0) (H4 7) (H4 8) (H4 9) (H4 10) (H4 11)] (some (.int u.1)) := by
  refine b_start RX10 (by decide) rfl (Nat.le_of_ble_eq_true rfl) rfl ?_
  intro p e s m args below meth c A ls Q hQ hx hb hr hlk hml hown hT hK hA hw hl
  have hl : lv_has ls 1 [(0, .ref (a 0))] := hl
  unfold f_X10_undo at h
  refine lv_aload_n hx hb dX10_undo_0 rfl (lv_at hl 0 rfl) ?_
  refine b_get hx hb hT hK hown fl_X10_26 hw 0 0 rfl rfl (v := .ref (a 51)) rfl dX10_undo_1 ?_
  refine b_get hx hb hT hK hown fl_X10_232 hw 8 0 rfl rfl (v := .int hCount) rfl dX10_undo_4 ?_
  refine lv_if_ne (tgt := 13) hx hb dX10_undo_7 (by decide) (fun hc7 => ?_) (fun hc7 => ?_)
  · rw [if_neg hc7] at h
    refine lv_aload_n hx hb dX10_undo_13 rfl (lv_at hl 0 rfl) ?_
    refine b_get hx hb hT hK hown fl_X10_26 hw 0 0 rfl rfl (v := .ref (a 51)) rfl dX10_undo_14 ?_
    refine lv_aload_n hx hb dX10_undo_17 rfl (lv_at hl 0 rfl) ?_
    refine b_get hx hb hT hK hown fl_X10_47 hw 0 0 rfl rfl (v := .ref (a 4)) rfl dX10_undo_18 ?_
    obtain ⟨r1, er1, h⟩ := g_cl_some h
    refine b_callV hx hb hml hown hT hK hA hw mk_X10_233 (c_X2_takeBack l D g a 51 a 4 hLatest hCount H0 H1 H2 H3 H4 S r1 er1) [8, 9, 10, 11, 12, 13, 14, 15, 16, 17, 18, 19, 20, 21, 22, 23, 24, 25, 26, 27, 28, 1, 2, 3, 4] [0, 5, 6, 7] rfl (by decide) 8 0 rfl rfl rfl rfl hl.1 [] rfl (Nat.le_of_ble_eq_true rfl) ⟨Nat.le_of_ble_eq_true rfl, Nat.le_of_ble_eq_true rfl⟩ ⟨Nat.zero_le _, Nat.zero_le _⟩ dX10_undo_21 (wb' := [k_Atlas g a rnd, k_StO g a 4, k_Sheet g a 5 (r1.2.2 0 0) (r1.2.2 1) (r1.2.2 2) (r1.2.2 3) (r1.2.2 4), k_Settings g a 10 (r1.2.2 5 0) (r1.2.2 5 1) (r1.2.2 5 2) (r1.2.2 5 3) (r1.2.2 5 4) (r1.2.2 5 5) (r1.2.2 5 6) (r1.2.2 5 7) (r1.2.2 5 8) (r1.2.2 5 9) (r1.2.2 5 10) (r1.2.2 5 11), k_Places g a 11 (r1.2.2 6 0) (r1.2.2 7) (r1.2.2 8) (r1.2.2 9) (r1.2.2 10) (r1.2.2 11), k_Catalog g a 30 lefts tops cwidths cheights originals orients, k_PkO g a 37 (a 4) (a 30), k_Space g a 38 spW spH fr codes counts, k_Hist g a 51 r1.1 r1.2.1, k_StO g a 53, k_Sheet g a 54 (H0 0 0) (H0 1) (H0 2) (H0 3) (H0 4), k_Settings g a 59 (H0 5 0) (H0 5 1) (H0 5 2) (H0 5 3) (H0 5 4) (H0 5 5) (H0 5 6) (H0 5 7) (H0 5 8) (H0 5 9) (H0 5 10) (H0 5 11), k_Places g a 60 (H0 6 0) (H0 7) (H0 8) (H0 9) (H0 10) (H0 11), k_StO g a 66, k_Sheet g a 67 (H1 0 0) (H1 1) (H1 2) (H1 3) (H1 4), k_Settings g a 72 (H1 5 0) (H1 5 1) (H1 5 2) (H1 5 3) (H1 5 4) (H1 5 5) (H1 5 6) (H1 5 7) (H1 5 8) (H1 5 9) (H1 5 10) (H1 5 11), k_Places g a 73 (H1 6 0) (H1 7) (H1 8) (H1 9) (H1 10) (H1 11), k_StO g a 79, k_Sheet g a 80 (H2 0 0) (H2 1) (H2 2) (H2 3) (H2 4), k_Settings g a 85 (H2 5 0) (H2 5 1) (H2 5 2) (H2 5 3) (H2 5 4) (H2 5 5) (H2 5 6) (H2 5 7) (H2 5 8) (H2 5 9) (H2 5 10) (H2 5 11), k_Places g a 86 (H2 6 0) (H2 7) (H2 8) (H2 9) (H2 10) (H2 11), k_StO g a 92, k_Sheet g a 93 (H3 0 0) (H3 1) (H3 2) (H3 3) (H3 4), k_Settings g a 98 (H3 5 0) (H3 5 1) (H3 5 2) (H3 5 3) (H3 5 4) (H3 5 5) (H3 5 6) (H3 5 7) (H3 5 8) (H3 5 9) (H3 5 10) (H3 5 11), k_Places g a 99 (H3 6 0) (H3 7) (H3 8) (H3 9) (H3 10) (H3 11), k_StO g a 105, k_Sheet g a 106 (H4 0 0) (H4 1) (H4 2) (H4 3) (H4 4), k_Settings g a 111 (H4 5 0) (H4 5 1) (H4 5 2) (H4 5 3) (H4 5 4) (H4 5 5) (H4 5 6) (H4 5 7) (H4 5 8) (H4 5 9) (H4 5 10) (H4 5 11), k_Places g a 112 (H4 6 0) (H4 7) (H4 8) (H4 9) (H4 10) (H4 11)]) rfl (b_e1 rfl (b_e1 rfl (b_e1 rfl (b_e1 rfl b_e0)))) 29 rfl (by decide) (st2 := []) rfl (fun H locs hw => ?_)
    refine lv_aload_n hx hb dX10_undo_24 rfl (lv_at hl 0 rfl) ?_
    obtain ⟨r2, er2, h⟩ := g_cl_some h
    refine b_callV hx hb hml hown hT hK hA hw mk_X10_236 (c_X10_studyAll l D g a rnd r1.2.2 lefts tops cwidths cheights originals orients spW spH fr codes counts r2 er2) [0, 1, 2, 3, 4, 5, 6, 7] [8, 9, 10, 11, 12, 13, 14, 15, 16, 17, 18, 19, 20, 21, 22, 23, 24, 25, 26, 27, 28] rfl (by decide) 0 0 rfl rfl rfl rfl hl.1 [] rfl (Nat.le_of_ble_eq_true rfl) ⟨Nat.le_of_ble_eq_true rfl, Nat.le_of_ble_eq_true rfl⟩ ⟨Nat.zero_le _, Nat.zero_le _⟩ dX10_undo_25 (wb' := [k_Atlas g a rnd, k_StO g a 4, k_Sheet g a 5 (r1.2.2 0 0) (r1.2.2 1) (r1.2.2 2) (r1.2.2 3) (r1.2.2 4), k_Settings g a 10 (r1.2.2 5 0) (r1.2.2 5 1) (r1.2.2 5 2) (r1.2.2 5 3) (r1.2.2 5 4) (r1.2.2 5 5) (r1.2.2 5 6) (r1.2.2 5 7) (r1.2.2 5 8) (r1.2.2 5 9) (r1.2.2 5 10) (r1.2.2 5 11), k_Places g a 11 (r1.2.2 6 0) (r1.2.2 7) (r1.2.2 8) (r1.2.2 9) (r1.2.2 10) (r1.2.2 11), k_Catalog g a 30 r2.1 r2.2.1 r2.2.2.1 r2.2.2.2.1 r2.2.2.2.2.1 r2.2.2.2.2.2.1, k_PkO g a 37 (a 4) (a 30), k_Space g a 38 r2.2.2.2.2.2.2.1 r2.2.2.2.2.2.2.2.1 r2.2.2.2.2.2.2.2.2.1 r2.2.2.2.2.2.2.2.2.2.1 r2.2.2.2.2.2.2.2.2.2.2, k_Hist g a 51 r1.1 r1.2.1, k_StO g a 53, k_Sheet g a 54 (H0 0 0) (H0 1) (H0 2) (H0 3) (H0 4), k_Settings g a 59 (H0 5 0) (H0 5 1) (H0 5 2) (H0 5 3) (H0 5 4) (H0 5 5) (H0 5 6) (H0 5 7) (H0 5 8) (H0 5 9) (H0 5 10) (H0 5 11), k_Places g a 60 (H0 6 0) (H0 7) (H0 8) (H0 9) (H0 10) (H0 11), k_StO g a 66, k_Sheet g a 67 (H1 0 0) (H1 1) (H1 2) (H1 3) (H1 4), k_Settings g a 72 (H1 5 0) (H1 5 1) (H1 5 2) (H1 5 3) (H1 5 4) (H1 5 5) (H1 5 6) (H1 5 7) (H1 5 8) (H1 5 9) (H1 5 10) (H1 5 11), k_Places g a 73 (H1 6 0) (H1 7) (H1 8) (H1 9) (H1 10) (H1 11), k_StO g a 79, k_Sheet g a 80 (H2 0 0) (H2 1) (H2 2) (H2 3) (H2 4), k_Settings g a 85 (H2 5 0) (H2 5 1) (H2 5 2) (H2 5 3) (H2 5 4) (H2 5 5) (H2 5 6) (H2 5 7) (H2 5 8) (H2 5 9) (H2 5 10) (H2 5 11), k_Places g a 86 (H2 6 0) (H2 7) (H2 8) (H2 9) (H2 10) (H2 11), k_StO g a 92, k_Sheet g a 93 (H3 0 0) (H3 1) (H3 2) (H3 3) (H3 4), k_Settings g a 98 (H3 5 0) (H3 5 1) (H3 5 2) (H3 5 3) (H3 5 4) (H3 5 5) (H3 5 6) (H3 5 7) (H3 5 8) (H3 5 9) (H3 5 10) (H3 5 11), k_Places g a 99 (H3 6 0) (H3 7) (H3 8) (H3 9) (H3 10) (H3 11), k_StO g a 105, k_Sheet g a 106 (H4 0 0) (H4 1) (H4 2) (H4 3) (H4 4), k_Settings g a 111 (H4 5 0) (H4 5 1) (H4 5 2) (H4 5 3) (H4 5 4) (H4 5 5) (H4 5 6) (H4 5 7) (H4 5 8) (H4 5 9) (H4 5 10) (H4 5 11), k_Places g a 112 (H4 6 0) (H4 7) (H4 8) (H4 9) (H4 10) (H4 11)]) rfl (b_e1 rfl (b_e1 rfl (b_e1 rfl (b_e1 rfl (b_e1 rfl (b_e1 rfl (b_e1 rfl (b_e1 rfl (b_e1 rfl (b_e1 rfl (b_e1 rfl (b_e1 rfl (b_e1 rfl (b_e1 rfl (b_e1 rfl (b_e1 rfl (b_e1 rfl (b_e1 rfl (b_e1 rfl (b_e1 rfl (b_e1 rfl b_e0))))))))))))))))))))) 29 rfl (by decide) (st2 := []) rfl (fun H locs hw => ?_)
    refine lv_aload_n hx hb dX10_undo_28 rfl (lv_at hl 0 rfl) ?_
    refine b_get hx hb hT hK hown fl_X10_26 hw 0 0 rfl rfl (v := .ref (a 51)) rfl dX10_undo_29 ?_
    refine b_get hx hb hT hK hown fl_X10_232 hw 8 0 rfl rfl (v := .int r1.2.1) rfl dX10_undo_32 ?_
    obtain rfl := Option.some.inj h
    exact b_iret hQ hx hb hr hlk hw rfl dX10_undo_35
  · rw [if_pos hc7] at h
    refine lv_bipush (v := -3) hx hb dX10_undo_10 (by decide) ?_
    obtain rfl := Option.some.inj h
    exact b_iret hQ hx hb hr hlk hw rfl dX10_undo_12
set_option maxRecDepth 100000 in
set_option maxHeartbeats 4000000 in
theorem c_X10_placeOf (l : Launch) (D : va_G) (g : Nat → ClassId) (a : Nat → Nat) (rnd : Int64) (S : Nat → Nat → Int32) (lefts : (Nat → Int32)) (tops : (Nat → Int32)) (cwidths : (Nat → Int32)) (cheights : (Nat → Int32)) (originals : (Nat → Int32)) (orients : (Nat → Int32)) (i1 : Int32) (u : Int32) (h : f_X10_placeOf S cwidths originals i1 = some u) : b_Ct l yX10_placeOf cX10_placeOf 3 (some .int) 2 42 D g [.ref (a 0), .int i1] [k_Atlas g a rnd, k_StO g a 4, k_Places g a 11 (S 6 0) (S 7) (S 8) (S 9) (S 10) (S 11), k_Catalog g a 30 lefts tops cwidths cheights originals orients] [k_Atlas g a rnd, k_StO g a 4, k_Places g a 11 (S 6 0) (S 7) (S 8) (S 9) (S 10) (S 11), k_Catalog g a 30 lefts tops cwidths cheights originals orients] (some (.int u)) := by
  refine b_start RX10 (by decide) rfl (Nat.le_of_ble_eq_true rfl) rfl ?_
  intro p e s m args below meth c A ls Q hQ hx hb hr hlk hml hown hT hK hA hw hl
  have hl : lv_has ls 3 [(0, .ref (a 0)), (1, .int i1)] := hl
  unfold f_X10_placeOf at h
  refine lv_aload_n hx hb dX10_placeOf_0 rfl (lv_at hl 0 rfl) ?_
  refine b_get hx hb hT hK hown fl_X10_53 hw 0 0 rfl rfl (v := .ref (a 30)) rfl dX10_placeOf_1 ?_
  refine lv_iload_n hx hb dX10_placeOf_4 rfl (lv_at hl 1 rfl) ?_
  obtain ⟨r1, er1, h⟩ := g_cl_some h
  refine b_callV hx hb hml hown hT hK hA hw mk_X10_243 (c_X0_sourceOf l D g a 30 lefts tops cwidths cheights originals orients i1 r1 er1) [3] [0, 1, 2] rfl (by decide) 3 0 rfl rfl rfl rfl hl.1 [] rfl (Nat.le_of_ble_eq_true rfl) ⟨Nat.le_of_ble_eq_true rfl, Nat.le_of_ble_eq_true rfl⟩ ⟨Nat.zero_le _, Nat.zero_le _⟩ dX10_placeOf_5 (wb' := [k_Atlas g a rnd, k_StO g a 4, k_Places g a 11 (S 6 0) (S 7) (S 8) (S 9) (S 10) (S 11), k_Catalog g a 30 lefts tops cwidths cheights originals orients]) rfl (b_e1 rfl (b_e1 rfl (b_e1 rfl b_e0))) 4 rfl (by decide) (st2 := [.int r1]) rfl (fun H locs hw => ?_)
  refine lv_istore_n (lv' := [(2, .int r1), (0, .ref (a 0)), (1, .int i1)]) hx hb dX10_placeOf_8 rfl hl (by decide) rfl (fun ls hl => ?_)
  refine lv_iload_n hx hb dX10_placeOf_9 rfl (lv_at hl 0 rfl) ?_
  refine lv_bipush (v := -4) hx hb dX10_placeOf_10 (by decide) ?_
  refine lv_icmp_ne (tgt := 20) hx hb dX10_placeOf_12 (by decide) (fun hc12 => ?_) (fun hc12 => ?_)
  · rw [if_neg hc12] at h
    refine lv_aload_n hx hb dX10_placeOf_20 rfl (lv_at hl 1 rfl) ?_
    refine b_get hx hb hT hK hown fl_X10_47 hw 0 0 rfl rfl (v := .ref (a 4)) rfl dX10_placeOf_21 ?_
    refine b_get hx hb hT hK hown fl_X10_214 hw 1 0 rfl rfl (v := .ref (a 11)) rfl dX10_placeOf_24 ?_
    refine b_get hx hb hT hK hown fl_X10_218 hw 2 0 rfl rfl (v := .ref (a 13)) rfl dX10_placeOf_27 ?_
    refine lv_iload_n hx hb dX10_placeOf_30 rfl (lv_at hl 0 rfl) ?_
    obtain ⟨x2, ex2, hix2, h⟩ := g_rd_some h
    refine b_iald hx hb hK hw 2 2 rfl (f := (S 8)) rfl hix2 ex2 dX10_placeOf_31 ?_
    obtain rfl := Option.some.inj h
    exact b_iret hQ hx hb hr hlk hw rfl dX10_placeOf_32
  · rw [if_pos hc12] at h
    refine lv_bipush (v := -4) hx hb dX10_placeOf_15 (by decide) ?_
    refine lv_goto (tgt := 32) hx hb dX10_placeOf_17 (by decide) ?_
    obtain rfl := Option.some.inj h
    exact b_iret hQ hx hb hr hlk hw rfl dX10_placeOf_32
set_option maxRecDepth 100000 in
set_option maxHeartbeats 4000000 in
theorem c_X10_pageOf (l : Launch) (D : va_G) (g : Nat → ClassId) (a : Nat → Nat) (rnd : Int64) (S : Nat → Nat → Int32) (lefts : (Nat → Int32)) (tops : (Nat → Int32)) (cwidths : (Nat → Int32)) (cheights : (Nat → Int32)) (originals : (Nat → Int32)) (orients : (Nat → Int32)) (i1 : Int32) (u : Int32) (h : f_X10_pageOf S cwidths originals i1 = some u) : b_Ct l yX10_pageOf cX10_pageOf 2 (some .int) 3 64 D g [.ref (a 0), .int i1] [k_Atlas g a rnd, k_StO g a 4, k_Sheet g a 5 (S 0 0) (S 1) (S 2) (S 3) (S 4), k_Places g a 11 (S 6 0) (S 7) (S 8) (S 9) (S 10) (S 11), k_Catalog g a 30 lefts tops cwidths cheights originals orients] [k_Atlas g a rnd, k_StO g a 4, k_Sheet g a 5 (S 0 0) (S 1) (S 2) (S 3) (S 4), k_Places g a 11 (S 6 0) (S 7) (S 8) (S 9) (S 10) (S 11), k_Catalog g a 30 lefts tops cwidths cheights originals orients] (some (.int u)) := by
  refine b_start RX10 (by decide) rfl (Nat.le_of_ble_eq_true rfl) rfl ?_
  intro p e s m args below meth c A ls Q hQ hx hb hr hlk hml hown hT hK hA hw hl
  have hl : lv_has ls 2 [(0, .ref (a 0)), (1, .int i1)] := hl
  unfold f_X10_pageOf at h
  refine lv_aload_n hx hb dX10_pageOf_0 rfl (lv_at hl 0 rfl) ?_
  refine b_get hx hb hT hK hown fl_X10_47 hw 0 0 rfl rfl (v := .ref (a 4)) rfl dX10_pageOf_1 ?_
  refine b_get hx hb hT hK hown fl_X10_85 hw 1 0 rfl rfl (v := .ref (a 5)) rfl dX10_pageOf_4 ?_
  refine lv_iload_n hx hb dX10_pageOf_7 rfl (lv_at hl 1 rfl) ?_
  refine b_callV hx hb hml hown hT hK hA hw mk_X10_120 (c_X6_has l D g a 5 (S 0 0) (S 1) (S 2) (S 3) (S 4) i1) [2] [0, 1, 3, 4] rfl (by decide) 2 0 rfl rfl rfl rfl hl.1 [] rfl (Nat.le_of_ble_eq_true rfl) ⟨Nat.le_of_ble_eq_true rfl, Nat.le_of_ble_eq_true rfl⟩ ⟨Nat.zero_le _, Nat.zero_le _⟩ dX10_pageOf_8 (wb' := [k_Atlas g a rnd, k_StO g a 4, k_Sheet g a 5 (S 0 0) (S 1) (S 2) (S 3) (S 4), k_Places g a 11 (S 6 0) (S 7) (S 8) (S 9) (S 10) (S 11), k_Catalog g a 30 lefts tops cwidths cheights originals orients]) rfl (b_e1 rfl (b_e1 rfl (b_e1 rfl (b_e1 rfl b_e0)))) 5 rfl (by decide) (st2 := [.int (f_X6_has (S 0 0) i1)]) rfl (fun H locs hw => ?_)
  refine lv_if_eq (tgt := 22) hx hb dX10_pageOf_11 (by decide) (fun hc11 => ?_) (fun hc11 => ?_)
  · rw [if_pos hc11] at h
    refine lv_iconst (v := -1) hx hb dX10_pageOf_22 (by decide) ?_
    obtain rfl := Option.some.inj h
    exact b_iret hQ hx hb hr hlk hw rfl dX10_pageOf_23
  · rw [if_neg hc11] at h
    refine lv_aload_n hx hb dX10_pageOf_14 rfl (lv_at hl 0 rfl) ?_
    refine lv_iload_n hx hb dX10_pageOf_15 rfl (lv_at hl 1 rfl) ?_
    obtain ⟨r1, er1, h⟩ := g_cl_some h
    refine b_callV hx hb hml hown hT hK hA hw mk_X10_239 (c_X10_placeOf l D g a rnd S lefts tops cwidths cheights originals orients i1 r1 er1) [0, 1, 3, 4] [2] rfl (by decide) 0 0 rfl rfl rfl rfl hl.1 [] rfl (Nat.le_of_ble_eq_true rfl) ⟨Nat.le_of_ble_eq_true rfl, Nat.le_of_ble_eq_true rfl⟩ ⟨Nat.zero_le _, Nat.zero_le _⟩ dX10_pageOf_16 (wb' := [k_Atlas g a rnd, k_StO g a 4, k_Sheet g a 5 (S 0 0) (S 1) (S 2) (S 3) (S 4), k_Places g a 11 (S 6 0) (S 7) (S 8) (S 9) (S 10) (S 11), k_Catalog g a 30 lefts tops cwidths cheights originals orients]) rfl (b_e1 rfl b_e0) 5 rfl (by decide) (st2 := [.int r1]) rfl (fun H locs hw => ?_)
    refine lv_goto (tgt := 23) hx hb dX10_pageOf_19 (by decide) ?_
    obtain rfl := Option.some.inj h
    exact b_iret hQ hx hb hr hlk hw rfl dX10_pageOf_23
set_option maxRecDepth 100000 in
set_option maxHeartbeats 4000000 in
theorem c_X10_xOf (l : Launch) (D : va_G) (g : Nat → ClassId) (a : Nat → Nat) (rnd : Int64) (S : Nat → Nat → Int32) (lefts : (Nat → Int32)) (tops : (Nat → Int32)) (cwidths : (Nat → Int32)) (cheights : (Nat → Int32)) (originals : (Nat → Int32)) (orients : (Nat → Int32)) (i1 : Int32) (u : Int32) (h : f_X10_xOf S cwidths originals i1 = some u) : b_Ct l yX10_xOf cX10_xOf 2 (some .int) 3 64 D g [.ref (a 0), .int i1] [k_Atlas g a rnd, k_StO g a 4, k_Sheet g a 5 (S 0 0) (S 1) (S 2) (S 3) (S 4), k_Settings g a 10 (S 5 0) (S 5 1) (S 5 2) (S 5 3) (S 5 4) (S 5 5) (S 5 6) (S 5 7) (S 5 8) (S 5 9) (S 5 10) (S 5 11), k_Places g a 11 (S 6 0) (S 7) (S 8) (S 9) (S 10) (S 11), k_Catalog g a 30 lefts tops cwidths cheights originals orients, k_PkO g a 37 (a 4) (a 30)] [k_Atlas g a rnd, k_StO g a 4, k_Sheet g a 5 (S 0 0) (S 1) (S 2) (S 3) (S 4), k_Settings g a 10 (S 5 0) (S 5 1) (S 5 2) (S 5 3) (S 5 4) (S 5 5) (S 5 6) (S 5 7) (S 5 8) (S 5 9) (S 5 10) (S 5 11), k_Places g a 11 (S 6 0) (S 7) (S 8) (S 9) (S 10) (S 11), k_Catalog g a 30 lefts tops cwidths cheights originals orients, k_PkO g a 37 (a 4) (a 30)] (some (.int u)) := by
  refine b_start RX10 (by decide) rfl (Nat.le_of_ble_eq_true rfl) rfl ?_
  intro p e s m args below meth c A ls Q hQ hx hb hr hlk hml hown hT hK hA hw hl
  have hl : lv_has ls 2 [(0, .ref (a 0)), (1, .int i1)] := hl
  unfold f_X10_xOf at h
  refine lv_aload_n hx hb dX10_xOf_0 rfl (lv_at hl 0 rfl) ?_
  refine b_get hx hb hT hK hown fl_X10_47 hw 0 0 rfl rfl (v := .ref (a 4)) rfl dX10_xOf_1 ?_
  refine b_get hx hb hT hK hown fl_X10_85 hw 1 0 rfl rfl (v := .ref (a 5)) rfl dX10_xOf_4 ?_
  refine lv_iload_n hx hb dX10_xOf_7 rfl (lv_at hl 1 rfl) ?_
  refine b_callV hx hb hml hown hT hK hA hw mk_X10_120 (c_X6_has l D g a 5 (S 0 0) (S 1) (S 2) (S 3) (S 4) i1) [2] [0, 1, 3, 4, 5, 6] rfl (by decide) 2 0 rfl rfl rfl rfl hl.1 [] rfl (Nat.le_of_ble_eq_true rfl) ⟨Nat.le_of_ble_eq_true rfl, Nat.le_of_ble_eq_true rfl⟩ ⟨Nat.zero_le _, Nat.zero_le _⟩ dX10_xOf_8 (wb' := [k_Atlas g a rnd, k_StO g a 4, k_Sheet g a 5 (S 0 0) (S 1) (S 2) (S 3) (S 4), k_Settings g a 10 (S 5 0) (S 5 1) (S 5 2) (S 5 3) (S 5 4) (S 5 5) (S 5 6) (S 5 7) (S 5 8) (S 5 9) (S 5 10) (S 5 11), k_Places g a 11 (S 6 0) (S 7) (S 8) (S 9) (S 10) (S 11), k_Catalog g a 30 lefts tops cwidths cheights originals orients, k_PkO g a 37 (a 4) (a 30)]) rfl (b_e1 rfl (b_e1 rfl (b_e1 rfl (b_e1 rfl (b_e1 rfl (b_e1 rfl b_e0)))))) 7 rfl (by decide) (st2 := [.int (f_X6_has (S 0 0) i1)]) rfl (fun H locs hw => ?_)
  refine lv_if_ne (tgt := 16) hx hb dX10_xOf_11 (by decide) (fun hc11 => ?_) (fun hc11 => ?_)
  · rw [if_neg hc11] at h
    refine lv_aload_n hx hb dX10_xOf_16 rfl (lv_at hl 0 rfl) ?_
    refine lv_iload_n hx hb dX10_xOf_17 rfl (lv_at hl 1 rfl) ?_
    obtain ⟨r1, er1, h⟩ := g_cl_some h
    refine b_callV hx hb hml hown hT hK hA hw mk_X10_239 (c_X10_placeOf l D g a rnd S lefts tops cwidths cheights originals orients i1 r1 er1) [0, 1, 4, 5] [2, 3, 6] rfl (by decide) 0 0 rfl rfl rfl rfl hl.1 [] rfl (Nat.le_of_ble_eq_true rfl) ⟨Nat.le_of_ble_eq_true rfl, Nat.le_of_ble_eq_true rfl⟩ ⟨Nat.zero_le _, Nat.zero_le _⟩ dX10_xOf_18 (wb' := [k_Atlas g a rnd, k_StO g a 4, k_Sheet g a 5 (S 0 0) (S 1) (S 2) (S 3) (S 4), k_Settings g a 10 (S 5 0) (S 5 1) (S 5 2) (S 5 3) (S 5 4) (S 5 5) (S 5 6) (S 5 7) (S 5 8) (S 5 9) (S 5 10) (S 5 11), k_Places g a 11 (S 6 0) (S 7) (S 8) (S 9) (S 10) (S 11), k_Catalog g a 30 lefts tops cwidths cheights originals orients, k_PkO g a 37 (a 4) (a 30)]) rfl (b_e1 rfl (b_e1 rfl (b_e1 rfl b_e0))) 7 rfl (by decide) (st2 := [.int r1]) rfl (fun H locs hw => ?_)
    refine lv_bipush (v := -4) hx hb dX10_xOf_21 (by decide) ?_
    refine lv_icmp_ne (tgt := 31) hx hb dX10_xOf_23 (by decide) (fun hc23 => ?_) (fun hc23 => ?_)
    · rw [if_neg hc23] at h
      refine lv_aload_n hx hb dX10_xOf_31 rfl (lv_at hl 0 rfl) ?_
      refine b_get hx hb hT hK hown fl_X10_62 hw 0 0 rfl rfl (v := .ref (a 37)) rfl dX10_xOf_32 ?_
      refine lv_aload_n hx hb dX10_xOf_35 rfl (lv_at hl 0 rfl) ?_
      refine b_get hx hb hT hK hown fl_X10_53 hw 0 0 rfl rfl (v := .ref (a 30)) rfl dX10_xOf_36 ?_
      refine lv_iload_n hx hb dX10_xOf_39 rfl (lv_at hl 1 rfl) ?_
      obtain ⟨r2, er2, h⟩ := g_cl_some h
      refine b_callV hx hb hml hown hT hK hA hw mk_X10_243 (c_X0_sourceOf l D g a 30 lefts tops cwidths cheights originals orients i1 r2 er2) [5] [0, 1, 2, 3, 4, 6] rfl (by decide) 5 0 rfl rfl rfl rfl hl.1 [.ref (a 37)] rfl (Nat.le_of_ble_eq_true rfl) ⟨Nat.le_of_ble_eq_true rfl, Nat.le_of_ble_eq_true rfl⟩ ⟨Nat.zero_le _, Nat.zero_le _⟩ dX10_xOf_40 (wb' := [k_Atlas g a rnd, k_StO g a 4, k_Sheet g a 5 (S 0 0) (S 1) (S 2) (S 3) (S 4), k_Settings g a 10 (S 5 0) (S 5 1) (S 5 2) (S 5 3) (S 5 4) (S 5 5) (S 5 6) (S 5 7) (S 5 8) (S 5 9) (S 5 10) (S 5 11), k_Places g a 11 (S 6 0) (S 7) (S 8) (S 9) (S 10) (S 11), k_Catalog g a 30 lefts tops cwidths cheights originals orients, k_PkO g a 37 (a 4) (a 30)]) rfl (b_e1 rfl (b_e1 rfl (b_e1 rfl (b_e1 rfl (b_e1 rfl (b_e1 rfl b_e0)))))) 7 rfl (by decide) (st2 := [.int r2, .ref (a 37)]) rfl (fun H locs hw => ?_)
      obtain ⟨r3, er3, h⟩ := g_cl_some h
      refine b_callV hx hb hml hown hT hK hA hw mk_X10_246 (c_X3_imageColumn l D g a 37 a 4 a 30 S r2 r3 er3) [6, 1, 3, 4] [0, 2, 5] rfl (by decide) 6 0 rfl rfl rfl rfl hl.1 [] rfl (Nat.le_of_ble_eq_true rfl) ⟨Nat.le_of_ble_eq_true rfl, Nat.le_of_ble_eq_true rfl⟩ ⟨Nat.zero_le _, Nat.zero_le _⟩ dX10_xOf_43 (wb' := [k_Atlas g a rnd, k_StO g a 4, k_Sheet g a 5 (S 0 0) (S 1) (S 2) (S 3) (S 4), k_Settings g a 10 (S 5 0) (S 5 1) (S 5 2) (S 5 3) (S 5 4) (S 5 5) (S 5 6) (S 5 7) (S 5 8) (S 5 9) (S 5 10) (S 5 11), k_Places g a 11 (S 6 0) (S 7) (S 8) (S 9) (S 10) (S 11), k_Catalog g a 30 lefts tops cwidths cheights originals orients, k_PkO g a 37 (a 4) (a 30)]) rfl (b_e1 rfl (b_e1 rfl (b_e1 rfl b_e0))) 7 rfl (by decide) (st2 := [.int r3]) rfl (fun H locs hw => ?_)
      obtain rfl := Option.some.inj h
      exact b_iret hQ hx hb hr hlk hw rfl dX10_xOf_46
    · rw [if_pos hc23] at h
      refine lv_bipush (v := -4) hx hb dX10_xOf_26 (by decide) ?_
      refine lv_goto (tgt := 46) hx hb dX10_xOf_28 (by decide) ?_
      obtain rfl := Option.some.inj h
      exact b_iret hQ hx hb hr hlk hw rfl dX10_xOf_46
  · rw [if_pos hc11] at h
    refine lv_iconst (v := -1) hx hb dX10_xOf_14 (by decide) ?_
    obtain rfl := Option.some.inj h
    exact b_iret hQ hx hb hr hlk hw rfl dX10_xOf_15
set_option maxRecDepth 100000 in
set_option maxHeartbeats 4000000 in
theorem c_X10_yOf (l : Launch) (D : va_G) (g : Nat → ClassId) (a : Nat → Nat) (rnd : Int64) (S : Nat → Nat → Int32) (lefts : (Nat → Int32)) (tops : (Nat → Int32)) (cwidths : (Nat → Int32)) (cheights : (Nat → Int32)) (originals : (Nat → Int32)) (orients : (Nat → Int32)) (i1 : Int32) (u : Int32) (h : f_X10_yOf S cwidths originals i1 = some u) : b_Ct l yX10_yOf cX10_yOf 2 (some .int) 3 64 D g [.ref (a 0), .int i1] [k_Atlas g a rnd, k_StO g a 4, k_Sheet g a 5 (S 0 0) (S 1) (S 2) (S 3) (S 4), k_Settings g a 10 (S 5 0) (S 5 1) (S 5 2) (S 5 3) (S 5 4) (S 5 5) (S 5 6) (S 5 7) (S 5 8) (S 5 9) (S 5 10) (S 5 11), k_Places g a 11 (S 6 0) (S 7) (S 8) (S 9) (S 10) (S 11), k_Catalog g a 30 lefts tops cwidths cheights originals orients, k_PkO g a 37 (a 4) (a 30)] [k_Atlas g a rnd, k_StO g a 4, k_Sheet g a 5 (S 0 0) (S 1) (S 2) (S 3) (S 4), k_Settings g a 10 (S 5 0) (S 5 1) (S 5 2) (S 5 3) (S 5 4) (S 5 5) (S 5 6) (S 5 7) (S 5 8) (S 5 9) (S 5 10) (S 5 11), k_Places g a 11 (S 6 0) (S 7) (S 8) (S 9) (S 10) (S 11), k_Catalog g a 30 lefts tops cwidths cheights originals orients, k_PkO g a 37 (a 4) (a 30)] (some (.int u)) := by
  refine b_start RX10 (by decide) rfl (Nat.le_of_ble_eq_true rfl) rfl ?_
  intro p e s m args below meth c A ls Q hQ hx hb hr hlk hml hown hT hK hA hw hl
  have hl : lv_has ls 2 [(0, .ref (a 0)), (1, .int i1)] := hl
  unfold f_X10_yOf at h
  refine lv_aload_n hx hb dX10_yOf_0 rfl (lv_at hl 0 rfl) ?_
  refine b_get hx hb hT hK hown fl_X10_47 hw 0 0 rfl rfl (v := .ref (a 4)) rfl dX10_yOf_1 ?_
  refine b_get hx hb hT hK hown fl_X10_85 hw 1 0 rfl rfl (v := .ref (a 5)) rfl dX10_yOf_4 ?_
  refine lv_iload_n hx hb dX10_yOf_7 rfl (lv_at hl 1 rfl) ?_
  refine b_callV hx hb hml hown hT hK hA hw mk_X10_120 (c_X6_has l D g a 5 (S 0 0) (S 1) (S 2) (S 3) (S 4) i1) [2] [0, 1, 3, 4, 5, 6] rfl (by decide) 2 0 rfl rfl rfl rfl hl.1 [] rfl (Nat.le_of_ble_eq_true rfl) ⟨Nat.le_of_ble_eq_true rfl, Nat.le_of_ble_eq_true rfl⟩ ⟨Nat.zero_le _, Nat.zero_le _⟩ dX10_yOf_8 (wb' := [k_Atlas g a rnd, k_StO g a 4, k_Sheet g a 5 (S 0 0) (S 1) (S 2) (S 3) (S 4), k_Settings g a 10 (S 5 0) (S 5 1) (S 5 2) (S 5 3) (S 5 4) (S 5 5) (S 5 6) (S 5 7) (S 5 8) (S 5 9) (S 5 10) (S 5 11), k_Places g a 11 (S 6 0) (S 7) (S 8) (S 9) (S 10) (S 11), k_Catalog g a 30 lefts tops cwidths cheights originals orients, k_PkO g a 37 (a 4) (a 30)]) rfl (b_e1 rfl (b_e1 rfl (b_e1 rfl (b_e1 rfl (b_e1 rfl (b_e1 rfl b_e0)))))) 7 rfl (by decide) (st2 := [.int (f_X6_has (S 0 0) i1)]) rfl (fun H locs hw => ?_)
  refine lv_if_ne (tgt := 16) hx hb dX10_yOf_11 (by decide) (fun hc11 => ?_) (fun hc11 => ?_)
  · rw [if_neg hc11] at h
    refine lv_aload_n hx hb dX10_yOf_16 rfl (lv_at hl 0 rfl) ?_
    refine lv_iload_n hx hb dX10_yOf_17 rfl (lv_at hl 1 rfl) ?_
    obtain ⟨r1, er1, h⟩ := g_cl_some h
    refine b_callV hx hb hml hown hT hK hA hw mk_X10_239 (c_X10_placeOf l D g a rnd S lefts tops cwidths cheights originals orients i1 r1 er1) [0, 1, 4, 5] [2, 3, 6] rfl (by decide) 0 0 rfl rfl rfl rfl hl.1 [] rfl (Nat.le_of_ble_eq_true rfl) ⟨Nat.le_of_ble_eq_true rfl, Nat.le_of_ble_eq_true rfl⟩ ⟨Nat.zero_le _, Nat.zero_le _⟩ dX10_yOf_18 (wb' := [k_Atlas g a rnd, k_StO g a 4, k_Sheet g a 5 (S 0 0) (S 1) (S 2) (S 3) (S 4), k_Settings g a 10 (S 5 0) (S 5 1) (S 5 2) (S 5 3) (S 5 4) (S 5 5) (S 5 6) (S 5 7) (S 5 8) (S 5 9) (S 5 10) (S 5 11), k_Places g a 11 (S 6 0) (S 7) (S 8) (S 9) (S 10) (S 11), k_Catalog g a 30 lefts tops cwidths cheights originals orients, k_PkO g a 37 (a 4) (a 30)]) rfl (b_e1 rfl (b_e1 rfl (b_e1 rfl b_e0))) 7 rfl (by decide) (st2 := [.int r1]) rfl (fun H locs hw => ?_)
    refine lv_bipush (v := -4) hx hb dX10_yOf_21 (by decide) ?_
    refine lv_icmp_ne (tgt := 31) hx hb dX10_yOf_23 (by decide) (fun hc23 => ?_) (fun hc23 => ?_)
    · rw [if_neg hc23] at h
      refine lv_aload_n hx hb dX10_yOf_31 rfl (lv_at hl 0 rfl) ?_
      refine b_get hx hb hT hK hown fl_X10_62 hw 0 0 rfl rfl (v := .ref (a 37)) rfl dX10_yOf_32 ?_
      refine lv_aload_n hx hb dX10_yOf_35 rfl (lv_at hl 0 rfl) ?_
      refine b_get hx hb hT hK hown fl_X10_53 hw 0 0 rfl rfl (v := .ref (a 30)) rfl dX10_yOf_36 ?_
      refine lv_iload_n hx hb dX10_yOf_39 rfl (lv_at hl 1 rfl) ?_
      obtain ⟨r2, er2, h⟩ := g_cl_some h
      refine b_callV hx hb hml hown hT hK hA hw mk_X10_243 (c_X0_sourceOf l D g a 30 lefts tops cwidths cheights originals orients i1 r2 er2) [5] [0, 1, 2, 3, 4, 6] rfl (by decide) 5 0 rfl rfl rfl rfl hl.1 [.ref (a 37)] rfl (Nat.le_of_ble_eq_true rfl) ⟨Nat.le_of_ble_eq_true rfl, Nat.le_of_ble_eq_true rfl⟩ ⟨Nat.zero_le _, Nat.zero_le _⟩ dX10_yOf_40 (wb' := [k_Atlas g a rnd, k_StO g a 4, k_Sheet g a 5 (S 0 0) (S 1) (S 2) (S 3) (S 4), k_Settings g a 10 (S 5 0) (S 5 1) (S 5 2) (S 5 3) (S 5 4) (S 5 5) (S 5 6) (S 5 7) (S 5 8) (S 5 9) (S 5 10) (S 5 11), k_Places g a 11 (S 6 0) (S 7) (S 8) (S 9) (S 10) (S 11), k_Catalog g a 30 lefts tops cwidths cheights originals orients, k_PkO g a 37 (a 4) (a 30)]) rfl (b_e1 rfl (b_e1 rfl (b_e1 rfl (b_e1 rfl (b_e1 rfl (b_e1 rfl b_e0)))))) 7 rfl (by decide) (st2 := [.int r2, .ref (a 37)]) rfl (fun H locs hw => ?_)
      obtain ⟨r3, er3, h⟩ := g_cl_some h
      refine b_callV hx hb hml hown hT hK hA hw mk_X10_249 (c_X3_imageRow l D g a 37 a 4 a 30 S r2 r3 er3) [6, 1, 3, 4] [0, 2, 5] rfl (by decide) 6 0 rfl rfl rfl rfl hl.1 [] rfl (Nat.le_of_ble_eq_true rfl) ⟨Nat.le_of_ble_eq_true rfl, Nat.le_of_ble_eq_true rfl⟩ ⟨Nat.zero_le _, Nat.zero_le _⟩ dX10_yOf_43 (wb' := [k_Atlas g a rnd, k_StO g a 4, k_Sheet g a 5 (S 0 0) (S 1) (S 2) (S 3) (S 4), k_Settings g a 10 (S 5 0) (S 5 1) (S 5 2) (S 5 3) (S 5 4) (S 5 5) (S 5 6) (S 5 7) (S 5 8) (S 5 9) (S 5 10) (S 5 11), k_Places g a 11 (S 6 0) (S 7) (S 8) (S 9) (S 10) (S 11), k_Catalog g a 30 lefts tops cwidths cheights originals orients, k_PkO g a 37 (a 4) (a 30)]) rfl (b_e1 rfl (b_e1 rfl (b_e1 rfl b_e0))) 7 rfl (by decide) (st2 := [.int r3]) rfl (fun H locs hw => ?_)
      obtain rfl := Option.some.inj h
      exact b_iret hQ hx hb hr hlk hw rfl dX10_yOf_46
    · rw [if_pos hc23] at h
      refine lv_bipush (v := -4) hx hb dX10_yOf_26 (by decide) ?_
      refine lv_goto (tgt := 46) hx hb dX10_yOf_28 (by decide) ?_
      obtain rfl := Option.some.inj h
      exact b_iret hQ hx hb hr hlk hw rfl dX10_yOf_46
  · rw [if_pos hc11] at h
    refine lv_iconst (v := -1) hx hb dX10_yOf_14 (by decide) ?_
    obtain rfl := Option.some.inj h
    exact b_iret hQ hx hb hr hlk hw rfl dX10_yOf_15
set_option maxRecDepth 100000 in
set_option maxHeartbeats 4000000 in
theorem c_X10_isTurned (l : Launch) (D : va_G) (g : Nat → ClassId) (a : Nat → Nat) (rnd : Int64) (S : Nat → Nat → Int32) (lefts : (Nat → Int32)) (tops : (Nat → Int32)) (cwidths : (Nat → Int32)) (cheights : (Nat → Int32)) (originals : (Nat → Int32)) (orients : (Nat → Int32)) (i1 : Int32) (u : Int32) (h : f_X10_isTurned S cwidths originals i1 = some u) : b_Ct l yX10_isTurned cX10_isTurned 2 (some .int) 3 64 D g [.ref (a 0), .int i1] [k_Atlas g a rnd, k_StO g a 4, k_Sheet g a 5 (S 0 0) (S 1) (S 2) (S 3) (S 4), k_Places g a 11 (S 6 0) (S 7) (S 8) (S 9) (S 10) (S 11), k_Catalog g a 30 lefts tops cwidths cheights originals orients] [k_Atlas g a rnd, k_StO g a 4, k_Sheet g a 5 (S 0 0) (S 1) (S 2) (S 3) (S 4), k_Places g a 11 (S 6 0) (S 7) (S 8) (S 9) (S 10) (S 11), k_Catalog g a 30 lefts tops cwidths cheights originals orients] (some (.int u)) := by
  refine b_start RX10 (by decide) rfl (Nat.le_of_ble_eq_true rfl) rfl ?_
  intro p e s m args below meth c A ls Q hQ hx hb hr hlk hml hown hT hK hA hw hl
  have hl : lv_has ls 2 [(0, .ref (a 0)), (1, .int i1)] := hl
  unfold f_X10_isTurned at h
  refine lv_aload_n hx hb dX10_isTurned_0 rfl (lv_at hl 0 rfl) ?_
  refine b_get hx hb hT hK hown fl_X10_47 hw 0 0 rfl rfl (v := .ref (a 4)) rfl dX10_isTurned_1 ?_
  refine b_get hx hb hT hK hown fl_X10_85 hw 1 0 rfl rfl (v := .ref (a 5)) rfl dX10_isTurned_4 ?_
  refine lv_iload_n hx hb dX10_isTurned_7 rfl (lv_at hl 1 rfl) ?_
  refine b_callV hx hb hml hown hT hK hA hw mk_X10_120 (c_X6_has l D g a 5 (S 0 0) (S 1) (S 2) (S 3) (S 4) i1) [2] [0, 1, 3, 4] rfl (by decide) 2 0 rfl rfl rfl rfl hl.1 [] rfl (Nat.le_of_ble_eq_true rfl) ⟨Nat.le_of_ble_eq_true rfl, Nat.le_of_ble_eq_true rfl⟩ ⟨Nat.zero_le _, Nat.zero_le _⟩ dX10_isTurned_8 (wb' := [k_Atlas g a rnd, k_StO g a 4, k_Sheet g a 5 (S 0 0) (S 1) (S 2) (S 3) (S 4), k_Places g a 11 (S 6 0) (S 7) (S 8) (S 9) (S 10) (S 11), k_Catalog g a 30 lefts tops cwidths cheights originals orients]) rfl (b_e1 rfl (b_e1 rfl (b_e1 rfl (b_e1 rfl b_e0)))) 5 rfl (by decide) (st2 := [.int (f_X6_has (S 0 0) i1)]) rfl (fun H locs hw => ?_)
  refine lv_if_ne (tgt := 16) hx hb dX10_isTurned_11 (by decide) (fun hc11 => ?_) (fun hc11 => ?_)
  · rw [if_neg hc11] at h
    refine lv_aload_n hx hb dX10_isTurned_16 rfl (lv_at hl 0 rfl) ?_
    refine lv_iload_n hx hb dX10_isTurned_17 rfl (lv_at hl 1 rfl) ?_
    obtain ⟨r1, er1, h⟩ := g_cl_some h
    refine b_callV hx hb hml hown hT hK hA hw mk_X10_239 (c_X10_placeOf l D g a rnd S lefts tops cwidths cheights originals orients i1 r1 er1) [0, 1, 3, 4] [2] rfl (by decide) 0 0 rfl rfl rfl rfl hl.1 [] rfl (Nat.le_of_ble_eq_true rfl) ⟨Nat.le_of_ble_eq_true rfl, Nat.le_of_ble_eq_true rfl⟩ ⟨Nat.zero_le _, Nat.zero_le _⟩ dX10_isTurned_18 (wb' := [k_Atlas g a rnd, k_StO g a 4, k_Sheet g a 5 (S 0 0) (S 1) (S 2) (S 3) (S 4), k_Places g a 11 (S 6 0) (S 7) (S 8) (S 9) (S 10) (S 11), k_Catalog g a 30 lefts tops cwidths cheights originals orients]) rfl (b_e1 rfl b_e0) 5 rfl (by decide) (st2 := [.int r1]) rfl (fun H locs hw => ?_)
    refine lv_bipush (v := -4) hx hb dX10_isTurned_21 (by decide) ?_
    refine lv_icmp_ne (tgt := 31) hx hb dX10_isTurned_23 (by decide) (fun hc23 => ?_) (fun hc23 => ?_)
    · rw [if_neg hc23] at h
      refine lv_aload_n hx hb dX10_isTurned_31 rfl (lv_at hl 0 rfl) ?_
      refine b_get hx hb hT hK hown fl_X10_47 hw 0 0 rfl rfl (v := .ref (a 4)) rfl dX10_isTurned_32 ?_
      refine b_get hx hb hT hK hown fl_X10_214 hw 1 0 rfl rfl (v := .ref (a 11)) rfl dX10_isTurned_35 ?_
      refine b_get hx hb hT hK hown fl_X10_252 hw 3 0 rfl rfl (v := .ref (a 16)) rfl dX10_isTurned_38 ?_
      refine lv_aload_n hx hb dX10_isTurned_41 rfl (lv_at hl 0 rfl) ?_
      refine b_get hx hb hT hK hown fl_X10_53 hw 0 0 rfl rfl (v := .ref (a 30)) rfl dX10_isTurned_42 ?_
      refine lv_iload_n hx hb dX10_isTurned_45 rfl (lv_at hl 1 rfl) ?_
      obtain ⟨r2, er2, h⟩ := g_cl_some h
      refine b_callV hx hb hml hown hT hK hA hw mk_X10_243 (c_X0_sourceOf l D g a 30 lefts tops cwidths cheights originals orients i1 r2 er2) [4] [0, 1, 2, 3] rfl (by decide) 4 0 rfl rfl rfl rfl hl.1 [.ref (a 16)] rfl (Nat.le_of_ble_eq_true rfl) ⟨Nat.le_of_ble_eq_true rfl, Nat.le_of_ble_eq_true rfl⟩ ⟨Nat.zero_le _, Nat.zero_le _⟩ dX10_isTurned_46 (wb' := [k_Atlas g a rnd, k_StO g a 4, k_Sheet g a 5 (S 0 0) (S 1) (S 2) (S 3) (S 4), k_Places g a 11 (S 6 0) (S 7) (S 8) (S 9) (S 10) (S 11), k_Catalog g a 30 lefts tops cwidths cheights originals orients]) rfl (b_e1 rfl (b_e1 rfl (b_e1 rfl (b_e1 rfl b_e0)))) 5 rfl (by decide) (st2 := [.int r2, .ref (a 16)]) rfl (fun H locs hw => ?_)
      obtain ⟨x3, ex3, hix3, h⟩ := g_rd_some h
      refine b_zald hx hb hK hw 3 5 rfl (f := (S 11)) rfl hix3 ex3 dX10_isTurned_49 ?_
      refine b_callS hx hb hml hown hT hK hA hw mk_X10_189 (c_X10_asNumber l D g x3) [] [0, 1, 2, 3, 4] rfl (by decide) rfl hl.1 [] rfl (Nat.le_of_ble_eq_true rfl) ⟨Nat.le_of_ble_eq_true rfl, Nat.le_of_ble_eq_true rfl⟩ ⟨Nat.zero_le _, Nat.zero_le _⟩ dX10_isTurned_50 (wb' := [k_Atlas g a rnd, k_StO g a 4, k_Sheet g a 5 (S 0 0) (S 1) (S 2) (S 3) (S 4), k_Places g a 11 (S 6 0) (S 7) (S 8) (S 9) (S 10) (S 11), k_Catalog g a 30 lefts tops cwidths cheights originals orients]) rfl (b_e1 rfl (b_e1 rfl (b_e1 rfl (b_e1 rfl (b_e1 rfl b_e0))))) 5 rfl (by decide) (st2 := [.int (f_X10_asNumber x3)]) rfl (fun H locs hw => ?_)
      obtain rfl := Option.some.inj h
      exact b_iret hQ hx hb hr hlk hw rfl dX10_isTurned_53
    · rw [if_pos hc23] at h
      refine lv_bipush (v := -4) hx hb dX10_isTurned_26 (by decide) ?_
      refine lv_goto (tgt := 53) hx hb dX10_isTurned_28 (by decide) ?_
      obtain rfl := Option.some.inj h
      exact b_iret hQ hx hb hr hlk hw rfl dX10_isTurned_53
  · rw [if_pos hc11] at h
    refine lv_iconst (v := -1) hx hb dX10_isTurned_14 (by decide) ?_
    obtain rfl := Option.some.inj h
    exact b_iret hQ hx hb hr hlk hw rfl dX10_isTurned_15
set_option maxRecDepth 100000 in
set_option maxHeartbeats 4000000 in
theorem c_X10_recordOf (l : Launch) (D : va_G) (g : Nat → ClassId) (a : Nat → Nat) (rnd : Int64) (S : Nat → Nat → Int32) (lefts : (Nat → Int32)) (tops : (Nat → Int32)) (cwidths : (Nat → Int32)) (cheights : (Nat → Int32)) (originals : (Nat → Int32)) (orients : (Nat → Int32)) (i1 : Int32) (u : Int32) (h : f_X10_recordOf S lefts tops cwidths cheights originals i1 = some u) : b_Ct l yX10_recordOf cX10_recordOf 3 (some .int) 4 108 D g [.ref (a 0), .int i1] [k_Atlas g a rnd, k_StO g a 4, k_Sheet g a 5 (S 0 0) (S 1) (S 2) (S 3) (S 4), k_Places g a 11 (S 6 0) (S 7) (S 8) (S 9) (S 10) (S 11), k_Catalog g a 30 lefts tops cwidths cheights originals orients] [k_Atlas g a rnd, k_StO g a 4, k_Sheet g a 5 (S 0 0) (S 1) (S 2) (S 3) (S 4), k_Places g a 11 (S 6 0) (S 7) (S 8) (S 9) (S 10) (S 11), k_Catalog g a 30 lefts tops cwidths cheights originals orients] (some (.int u)) := by
  refine b_start RX10 (by decide) rfl (Nat.le_of_ble_eq_true rfl) rfl ?_
  intro p e s m args below meth c A ls Q hQ hx hb hr hlk hml hown hT hK hA hw hl
  have hl : lv_has ls 3 [(0, .ref (a 0)), (1, .int i1)] := hl
  unfold f_X10_recordOf at h
  refine lv_aload_n hx hb dX10_recordOf_0 rfl (lv_at hl 0 rfl) ?_
  refine b_get hx hb hT hK hown fl_X10_47 hw 0 0 rfl rfl (v := .ref (a 4)) rfl dX10_recordOf_1 ?_
  refine b_get hx hb hT hK hown fl_X10_85 hw 1 0 rfl rfl (v := .ref (a 5)) rfl dX10_recordOf_4 ?_
  refine lv_iload_n hx hb dX10_recordOf_7 rfl (lv_at hl 1 rfl) ?_
  refine b_callV hx hb hml hown hT hK hA hw mk_X10_120 (c_X6_has l D g a 5 (S 0 0) (S 1) (S 2) (S 3) (S 4) i1) [2] [0, 1, 3, 4] rfl (by decide) 2 0 rfl rfl rfl rfl hl.1 [] rfl (Nat.le_of_ble_eq_true rfl) ⟨Nat.le_of_ble_eq_true rfl, Nat.le_of_ble_eq_true rfl⟩ ⟨Nat.zero_le _, Nat.zero_le _⟩ dX10_recordOf_8 (wb' := [k_Atlas g a rnd, k_StO g a 4, k_Sheet g a 5 (S 0 0) (S 1) (S 2) (S 3) (S 4), k_Places g a 11 (S 6 0) (S 7) (S 8) (S 9) (S 10) (S 11), k_Catalog g a 30 lefts tops cwidths cheights originals orients]) rfl (b_e1 rfl (b_e1 rfl (b_e1 rfl (b_e1 rfl b_e0)))) 5 rfl (by decide) (st2 := [.int (f_X6_has (S 0 0) i1)]) rfl (fun H locs hw => ?_)
  refine lv_if_ne (tgt := 16) hx hb dX10_recordOf_11 (by decide) (fun hc11 => ?_) (fun hc11 => ?_)
  · rw [if_neg hc11] at h
    refine lv_aload_n hx hb dX10_recordOf_16 rfl (lv_at hl 0 rfl) ?_
    refine lv_iload_n hx hb dX10_recordOf_17 rfl (lv_at hl 1 rfl) ?_
    obtain ⟨r1, er1, h⟩ := g_cl_some h
    refine b_callV hx hb hml hown hT hK hA hw mk_X10_239 (c_X10_placeOf l D g a rnd S lefts tops cwidths cheights originals orients i1 r1 er1) [0, 1, 3, 4] [2] rfl (by decide) 0 0 rfl rfl rfl rfl hl.1 [] rfl (Nat.le_of_ble_eq_true rfl) ⟨Nat.le_of_ble_eq_true rfl, Nat.le_of_ble_eq_true rfl⟩ ⟨Nat.zero_le _, Nat.zero_le _⟩ dX10_recordOf_18 (wb' := [k_Atlas g a rnd, k_StO g a 4, k_Sheet g a 5 (S 0 0) (S 1) (S 2) (S 3) (S 4), k_Places g a 11 (S 6 0) (S 7) (S 8) (S 9) (S 10) (S 11), k_Catalog g a 30 lefts tops cwidths cheights originals orients]) rfl (b_e1 rfl b_e0) 5 rfl (by decide) (st2 := [.int r1]) rfl (fun H locs hw => ?_)
    refine lv_bipush (v := -4) hx hb dX10_recordOf_21 (by decide) ?_
    refine lv_icmp_ne (tgt := 29) hx hb dX10_recordOf_23 (by decide) (fun hc23 => ?_) (fun hc23 => ?_)
    · rw [if_neg hc23] at h
      refine lv_aload_n hx hb dX10_recordOf_29 rfl (lv_at hl 0 rfl) ?_
      refine b_get hx hb hT hK hown fl_X10_53 hw 0 0 rfl rfl (v := .ref (a 30)) rfl dX10_recordOf_30 ?_
      refine lv_iload_n hx hb dX10_recordOf_33 rfl (lv_at hl 1 rfl) ?_
      obtain ⟨r2, er2, h⟩ := g_cl_some h
      refine b_callV hx hb hml hown hT hK hA hw mk_X10_243 (c_X0_sourceOf l D g a 30 lefts tops cwidths cheights originals orients i1 r2 er2) [4] [0, 1, 2, 3] rfl (by decide) 4 0 rfl rfl rfl rfl hl.1 [] rfl (Nat.le_of_ble_eq_true rfl) ⟨Nat.le_of_ble_eq_true rfl, Nat.le_of_ble_eq_true rfl⟩ ⟨Nat.zero_le _, Nat.zero_le _⟩ dX10_recordOf_34 (wb' := [k_Atlas g a rnd, k_StO g a 4, k_Sheet g a 5 (S 0 0) (S 1) (S 2) (S 3) (S 4), k_Places g a 11 (S 6 0) (S 7) (S 8) (S 9) (S 10) (S 11), k_Catalog g a 30 lefts tops cwidths cheights originals orients]) rfl (b_e1 rfl (b_e1 rfl (b_e1 rfl (b_e1 rfl b_e0)))) 5 rfl (by decide) (st2 := [.int r2]) rfl (fun H locs hw => ?_)
      refine lv_istore_n (lv' := [(2, .int r2), (0, .ref (a 0)), (1, .int i1)]) hx hb dX10_recordOf_37 rfl hl (by decide) rfl (fun ls hl => ?_)
      refine lv_aload_n hx hb dX10_recordOf_38 rfl (lv_at hl 1 rfl) ?_
      refine b_get hx hb hT hK hown fl_X10_53 hw 0 0 rfl rfl (v := .ref (a 30)) rfl dX10_recordOf_39 ?_
      refine lv_aload_n hx hb dX10_recordOf_42 rfl (lv_at hl 1 rfl) ?_
      refine b_get hx hb hT hK hown fl_X10_47 hw 0 0 rfl rfl (v := .ref (a 4)) rfl dX10_recordOf_43 ?_
      refine b_get hx hb hT hK hown fl_X10_85 hw 1 0 rfl rfl (v := .ref (a 5)) rfl dX10_recordOf_46 ?_
      refine lv_iload_n hx hb dX10_recordOf_49 rfl (lv_at hl 2 rfl) ?_
      refine lv_iload_n hx hb dX10_recordOf_50 rfl (lv_at hl 0 rfl) ?_
      refine lv_aload_n hx hb dX10_recordOf_51 rfl (lv_at hl 1 rfl) ?_
      refine b_get hx hb hT hK hown fl_X10_47 hw 0 0 rfl rfl (v := .ref (a 4)) rfl dX10_recordOf_52 ?_
      refine b_get hx hb hT hK hown fl_X10_214 hw 1 0 rfl rfl (v := .ref (a 11)) rfl dX10_recordOf_55 ?_
      refine b_get hx hb hT hK hown fl_X10_252 hw 3 0 rfl rfl (v := .ref (a 16)) rfl dX10_recordOf_58 ?_
      refine lv_iload_n hx hb dX10_recordOf_61 rfl (lv_at hl 0 rfl) ?_
      obtain ⟨x3, ex3, hix3, h⟩ := g_rd_some h
      refine b_zald hx hb hK hw 3 5 rfl (f := (S 11)) rfl hix3 ex3 dX10_recordOf_62 ?_
      obtain ⟨r4, er4, h⟩ := g_cl_some h
      refine b_callV hx hb hml hown hT hK hA hw mk_X10_255 (c_X0_findRecord l D g a 30 a 5 lefts tops cwidths cheights originals orients (S 0 0) (S 1) (S 2) (S 3) (S 4) i1 r2 x3 r4 er4) [4, 2] [0, 1, 3] rfl (by decide) 4 0 rfl rfl rfl rfl hl.1 [] rfl (Nat.le_of_ble_eq_true rfl) ⟨Nat.le_of_ble_eq_true rfl, Nat.le_of_ble_eq_true rfl⟩ ⟨Nat.zero_le _, Nat.zero_le _⟩ dX10_recordOf_63 (wb' := [k_Atlas g a rnd, k_StO g a 4, k_Sheet g a 5 (S 0 0) (S 1) (S 2) (S 3) (S 4), k_Places g a 11 (S 6 0) (S 7) (S 8) (S 9) (S 10) (S 11), k_Catalog g a 30 lefts tops cwidths cheights originals orients]) rfl (b_e1 rfl (b_e1 rfl (b_e1 rfl b_e0))) 5 rfl (by decide) (st2 := [.int r4]) rfl (fun H locs hw => ?_)
      obtain rfl := Option.some.inj h
      exact b_iret hQ hx hb hr hlk hw rfl dX10_recordOf_66
    · rw [if_pos hc23] at h
      refine lv_bipush (v := -4) hx hb dX10_recordOf_26 (by decide) ?_
      obtain rfl := Option.some.inj h
      exact b_iret hQ hx hb hr hlk hw rfl dX10_recordOf_28
  · rw [if_pos hc11] at h
    refine lv_iconst (v := -1) hx hb dX10_recordOf_14 (by decide) ?_
    obtain rfl := Option.some.inj h
    exact b_iret hQ hx hb hr hlk hw rfl dX10_recordOf_15
set_option maxRecDepth 100000 in
set_option maxHeartbeats 4000000 in
theorem c_X10_pages (l : Launch) (D : va_G) (g : Nat → ClassId) (a : Nat → Nat) (rnd : Int64) (S : Nat → Nat → Int32) : b_Ct l yX10_pages cX10_pages 1 (some .int) 0 0 D g [.ref (a 0)] [k_Atlas g a rnd, k_StO g a 4, k_Places g a 11 (S 6 0) (S 7) (S 8) (S 9) (S 10) (S 11)] [k_Atlas g a rnd, k_StO g a 4, k_Places g a 11 (S 6 0) (S 7) (S 8) (S 9) (S 10) (S 11)] (some (.int (f_X10_pages S))) := by
  refine b_start RX10 (by decide) rfl (Nat.le_of_ble_eq_true rfl) rfl ?_
  intro p e s m args below meth c A ls Q hQ hx hb hr hlk hml hown hT hK hA hw hl
  have hl : lv_has ls 1 [(0, .ref (a 0))] := hl
  generalize h : f_X10_pages S = u at hQ
  unfold f_X10_pages at h
  refine lv_aload_n hx hb dX10_pages_0 rfl (lv_at hl 0 rfl) ?_
  refine b_get hx hb hT hK hown fl_X10_47 hw 0 0 rfl rfl (v := .ref (a 4)) rfl dX10_pages_1 ?_
  refine b_get hx hb hT hK hown fl_X10_214 hw 1 0 rfl rfl (v := .ref (a 11)) rfl dX10_pages_4 ?_
  refine b_get hx hb hT hK hown fl_X10_259 hw 2 0 rfl rfl (v := .int (S 6 0)) rfl dX10_pages_7 ?_
  obtain rfl := h
  exact b_iret hQ hx hb hr hlk hw rfl dX10_pages_10
set_option maxRecDepth 100000 in
set_option maxHeartbeats 4000000 in
theorem c_X10_hasPage (l : Launch) (D : va_G) (g : Nat → ClassId) (a : Nat → Nat) (rnd : Int64) (S : Nat → Nat → Int32) (i1 : Int32) (u : Int32) (h : f_X10_hasPage S i1 = some u) : b_Ct l yX10_hasPage cX10_hasPage 2 (some .boolean) 1 22 D g [.ref (a 0), .int i1] [k_Atlas g a rnd, k_StO g a 4, k_Places g a 11 (S 6 0) (S 7) (S 8) (S 9) (S 10) (S 11)] [k_Atlas g a rnd, k_StO g a 4, k_Places g a 11 (S 6 0) (S 7) (S 8) (S 9) (S 10) (S 11)] (some (.int u)) := by
  refine b_start RX10 (by decide) rfl (Nat.le_of_ble_eq_true rfl) rfl ?_
  intro p e s m args below meth c A ls Q hQ hx hb hr hlk hml hown hT hK hA hw hl
  have hl : lv_has ls 2 [(0, .ref (a 0)), (1, .int i1)] := hl
  unfold f_X10_hasPage at h
  refine lv_iload_n hx hb dX10_hasPage_0 rfl (lv_at hl 1 rfl) ?_
  refine lv_iconst (v := 0) hx hb dX10_hasPage_1 (by decide) ?_
  refine lv_aload_n hx hb dX10_hasPage_2 rfl (lv_at hl 0 rfl) ?_
  refine b_get hx hb hT hK hown fl_X10_47 hw 0 0 rfl rfl (v := .ref (a 4)) rfl dX10_hasPage_3 ?_
  refine b_get hx hb hT hK hown fl_X10_214 hw 1 0 rfl rfl (v := .ref (a 11)) rfl dX10_hasPage_6 ?_
  refine b_get hx hb hT hK hown fl_X10_259 hw 2 0 rfl rfl (v := .int (S 6 0)) rfl dX10_hasPage_9 ?_
  refine lv_iconst (v := 1) hx hb dX10_hasPage_12 (by decide) ?_
  refine lv_isub hx hb dX10_hasPage_13 ?_
  refine b_callS hx hb hml hown hT hK hA hw mk_X10_69 (c_X10_isWithin l D g i1 (0 : Int32) ((S 6 0) - (1 : Int32))) [] [0, 1, 2] rfl (by decide) rfl hl.1 [] rfl (Nat.le_of_ble_eq_true rfl) ⟨Nat.le_of_ble_eq_true rfl, Nat.le_of_ble_eq_true rfl⟩ ⟨Nat.zero_le _, Nat.zero_le _⟩ dX10_hasPage_14 (wb' := [k_Atlas g a rnd, k_StO g a 4, k_Places g a 11 (S 6 0) (S 7) (S 8) (S 9) (S 10) (S 11)]) rfl (b_e1 rfl (b_e1 rfl (b_e1 rfl b_e0))) 3 rfl (by decide) (st2 := [.int (f_X10_isWithin i1 (0 : Int32) ((S 6 0) - (1 : Int32)))]) rfl (fun H locs hw => ?_)
  obtain ⟨x1, ex1, h⟩ := g_bd_nm h
  refine g_topi ex1 ?_
  obtain ⟨z2, h⟩ := g_z_some h
  obtain rfl := Option.some.inj h
  exact b_zret hQ hx hb hr hlk z2 hw rfl dX10_hasPage_17
set_option maxRecDepth 100000 in
set_option maxHeartbeats 4000000 in
theorem c_X10_hasPagePixel (l : Launch) (D : va_G) (g : Nat → ClassId) (a : Nat → Nat) (rnd : Int64) (S : Nat → Nat → Int32) (i1 : Int32) (i2 : Int32) (i3 : Int32) (u : Int32) (h : f_X10_hasPagePixel S i1 i2 i3 = some u) : b_Ct l yX10_hasPagePixel cX10_hasPagePixel 4 (some .boolean) 2 43 D g [.ref (a 0), .int i1, .int i2, .int i3] [k_Atlas g a rnd, k_StO g a 4, k_Settings g a 10 (S 5 0) (S 5 1) (S 5 2) (S 5 3) (S 5 4) (S 5 5) (S 5 6) (S 5 7) (S 5 8) (S 5 9) (S 5 10) (S 5 11), k_Places g a 11 (S 6 0) (S 7) (S 8) (S 9) (S 10) (S 11)] [k_Atlas g a rnd, k_StO g a 4, k_Settings g a 10 (S 5 0) (S 5 1) (S 5 2) (S 5 3) (S 5 4) (S 5 5) (S 5 6) (S 5 7) (S 5 8) (S 5 9) (S 5 10) (S 5 11), k_Places g a 11 (S 6 0) (S 7) (S 8) (S 9) (S 10) (S 11)] (some (.int u)) := by
  refine b_start RX10 (by decide) rfl (Nat.le_of_ble_eq_true rfl) rfl ?_
  intro p e s m args below meth c A ls Q hQ hx hb hr hlk hml hown hT hK hA hw hl
  have hl : lv_has ls 4 [(0, .ref (a 0)), (1, .int i1), (2, .int i2), (3, .int i3)] := hl
  unfold f_X10_hasPagePixel at h
  refine lv_aload_n hx hb dX10_hasPagePixel_0 rfl (lv_at hl 0 rfl) ?_
  refine lv_iload_n hx hb dX10_hasPagePixel_1 rfl (lv_at hl 1 rfl) ?_
  obtain ⟨r1, er1, h⟩ := g_cl_some h
  refine b_callV hx hb hml hown hT hK hA hw mk_X10_271 (c_X10_hasPage l D g a rnd S i1 r1 er1) [0, 1, 3] [2] rfl (by decide) 0 0 rfl rfl rfl rfl hl.1 [] rfl (Nat.le_of_ble_eq_true rfl) ⟨Nat.le_of_ble_eq_true rfl, Nat.le_of_ble_eq_true rfl⟩ ⟨Nat.zero_le _, Nat.zero_le _⟩ dX10_hasPagePixel_2 (wb' := [k_Atlas g a rnd, k_StO g a 4, k_Settings g a 10 (S 5 0) (S 5 1) (S 5 2) (S 5 3) (S 5 4) (S 5 5) (S 5 6) (S 5 7) (S 5 8) (S 5 9) (S 5 10) (S 5 11), k_Places g a 11 (S 6 0) (S 7) (S 8) (S 9) (S 10) (S 11)]) rfl (b_e1 rfl b_e0) 4 rfl (by decide) (st2 := [.int r1]) rfl (fun H locs hw => ?_)
  refine lv_if_eq (tgt := 52) hx hb dX10_hasPagePixel_5 (by decide) (fun hc5 => ?_) (fun hc5 => ?_)
  · rw [if_pos hc5] at h
    refine lv_iconst (v := 0) hx hb dX10_hasPagePixel_52 (by decide) ?_
    obtain rfl := Option.some.inj h
    exact b_zret hQ hx hb hr hlk (Or.inl rfl) hw rfl dX10_hasPagePixel_53
  · rw [if_neg hc5] at h
    refine lv_iload_n hx hb dX10_hasPagePixel_8 rfl (lv_at hl 2 rfl) ?_
    refine lv_iconst (v := 0) hx hb dX10_hasPagePixel_9 (by decide) ?_
    refine lv_aload_n hx hb dX10_hasPagePixel_10 rfl (lv_at hl 0 rfl) ?_
    refine b_get hx hb hT hK hown fl_X10_47 hw 0 0 rfl rfl (v := .ref (a 4)) rfl dX10_hasPagePixel_11 ?_
    refine b_get hx hb hT hK hown fl_X10_105 hw 1 0 rfl rfl (v := .ref (a 10)) rfl dX10_hasPagePixel_14 ?_
    refine b_get hx hb hT hK hown fl_X10_165 hw 2 0 rfl rfl (v := .int (S 5 0)) rfl dX10_hasPagePixel_17 ?_
    refine lv_iconst (v := 1) hx hb dX10_hasPagePixel_20 (by decide) ?_
    refine lv_isub hx hb dX10_hasPagePixel_21 ?_
    refine b_callS hx hb hml hown hT hK hA hw mk_X10_69 (c_X10_isWithin l D g i2 (0 : Int32) ((S 5 0) - (1 : Int32))) [] [0, 1, 2, 3] rfl (by decide) rfl hl.1 [] rfl (Nat.le_of_ble_eq_true rfl) ⟨Nat.le_of_ble_eq_true rfl, Nat.le_of_ble_eq_true rfl⟩ ⟨Nat.zero_le _, Nat.zero_le _⟩ dX10_hasPagePixel_22 (wb' := [k_Atlas g a rnd, k_StO g a 4, k_Settings g a 10 (S 5 0) (S 5 1) (S 5 2) (S 5 3) (S 5 4) (S 5 5) (S 5 6) (S 5 7) (S 5 8) (S 5 9) (S 5 10) (S 5 11), k_Places g a 11 (S 6 0) (S 7) (S 8) (S 9) (S 10) (S 11)]) rfl (b_e1 rfl (b_e1 rfl (b_e1 rfl (b_e1 rfl b_e0)))) 4 rfl (by decide) (st2 := [.int (f_X10_isWithin i2 (0 : Int32) ((S 5 0) - (1 : Int32)))]) rfl (fun H locs hw => ?_)
    refine lv_if_eq (tgt := 52) hx hb dX10_hasPagePixel_25 (by decide) (fun hc25 => ?_) (fun hc25 => ?_)
    · rw [if_pos hc25] at h
      refine lv_iconst (v := 0) hx hb dX10_hasPagePixel_52 (by decide) ?_
      obtain rfl := Option.some.inj h
      exact b_zret hQ hx hb hr hlk (Or.inl rfl) hw rfl dX10_hasPagePixel_53
    · rw [if_neg hc25] at h
      refine lv_iload_n hx hb dX10_hasPagePixel_28 rfl (lv_at hl 3 rfl) ?_
      refine lv_iconst (v := 0) hx hb dX10_hasPagePixel_29 (by decide) ?_
      refine lv_aload_n hx hb dX10_hasPagePixel_30 rfl (lv_at hl 0 rfl) ?_
      refine b_get hx hb hT hK hown fl_X10_47 hw 0 0 rfl rfl (v := .ref (a 4)) rfl dX10_hasPagePixel_31 ?_
      refine b_get hx hb hT hK hown fl_X10_105 hw 1 0 rfl rfl (v := .ref (a 10)) rfl dX10_hasPagePixel_34 ?_
      refine b_get hx hb hT hK hown fl_X10_170 hw 2 0 rfl rfl (v := .int (S 5 1)) rfl dX10_hasPagePixel_37 ?_
      refine lv_iconst (v := 1) hx hb dX10_hasPagePixel_40 (by decide) ?_
      refine lv_isub hx hb dX10_hasPagePixel_41 ?_
      refine b_callS hx hb hml hown hT hK hA hw mk_X10_69 (c_X10_isWithin l D g i3 (0 : Int32) ((S 5 1) - (1 : Int32))) [] [0, 1, 2, 3] rfl (by decide) rfl hl.1 [] rfl (Nat.le_of_ble_eq_true rfl) ⟨Nat.le_of_ble_eq_true rfl, Nat.le_of_ble_eq_true rfl⟩ ⟨Nat.zero_le _, Nat.zero_le _⟩ dX10_hasPagePixel_42 (wb' := [k_Atlas g a rnd, k_StO g a 4, k_Settings g a 10 (S 5 0) (S 5 1) (S 5 2) (S 5 3) (S 5 4) (S 5 5) (S 5 6) (S 5 7) (S 5 8) (S 5 9) (S 5 10) (S 5 11), k_Places g a 11 (S 6 0) (S 7) (S 8) (S 9) (S 10) (S 11)]) rfl (b_e1 rfl (b_e1 rfl (b_e1 rfl (b_e1 rfl b_e0)))) 4 rfl (by decide) (st2 := [.int (f_X10_isWithin i3 (0 : Int32) ((S 5 1) - (1 : Int32)))]) rfl (fun H locs hw => ?_)
      refine lv_if_eq (tgt := 52) hx hb dX10_hasPagePixel_45 (by decide) (fun hc45 => ?_) (fun hc45 => ?_)
      · rw [if_pos hc45] at h
        refine lv_iconst (v := 0) hx hb dX10_hasPagePixel_52 (by decide) ?_
        obtain rfl := Option.some.inj h
        exact b_zret hQ hx hb hr hlk (Or.inl rfl) hw rfl dX10_hasPagePixel_53
      · rw [if_neg hc45] at h
        refine lv_iconst (v := 1) hx hb dX10_hasPagePixel_48 (by decide) ?_
        refine lv_goto (tgt := 53) hx hb dX10_hasPagePixel_49 (by decide) ?_
        obtain rfl := Option.some.inj h
        exact b_zret hQ hx hb hr hlk (Or.inr rfl) hw rfl dX10_hasPagePixel_53
set_option maxRecDepth 100000 in
set_option maxHeartbeats 4000000 in
theorem c_X10_pixel (l : Launch) (D : va_G) (g : Nat → ClassId) (a : Nat → Nat) (rnd : Int64) (S : Nat → Nat → Int32) (lefts : (Nat → Int32)) (tops : (Nat → Int32)) (cwidths : (Nat → Int32)) (cheights : (Nat → Int32)) (originals : (Nat → Int32)) (orients : (Nat → Int32)) (i1 : Int32) (i2 : Int32) (i3 : Int32) (u : Int32) (h : f_X10_pixel S lefts tops cwidths cheights i1 i2 i3 = some u) : b_Ct l yX10_pixel cX10_pixel 4 (some .int) 3 80 D g [.ref (a 0), .int i1, .int i2, .int i3] [k_Atlas g a rnd, k_StO g a 4, k_Sheet g a 5 (S 0 0) (S 1) (S 2) (S 3) (S 4), k_Settings g a 10 (S 5 0) (S 5 1) (S 5 2) (S 5 3) (S 5 4) (S 5 5) (S 5 6) (S 5 7) (S 5 8) (S 5 9) (S 5 10) (S 5 11), k_Places g a 11 (S 6 0) (S 7) (S 8) (S 9) (S 10) (S 11), k_Catalog g a 30 lefts tops cwidths cheights originals orients, k_PkO g a 37 (a 4) (a 30)] [k_Atlas g a rnd, k_StO g a 4, k_Sheet g a 5 (S 0 0) (S 1) (S 2) (S 3) (S 4), k_Settings g a 10 (S 5 0) (S 5 1) (S 5 2) (S 5 3) (S 5 4) (S 5 5) (S 5 6) (S 5 7) (S 5 8) (S 5 9) (S 5 10) (S 5 11), k_Places g a 11 (S 6 0) (S 7) (S 8) (S 9) (S 10) (S 11), k_Catalog g a 30 lefts tops cwidths cheights originals orients, k_PkO g a 37 (a 4) (a 30)] (some (.int u)) := by
  refine b_start RX10 (by decide) rfl (Nat.le_of_ble_eq_true rfl) rfl ?_
  intro p e s m args below meth c A ls Q hQ hx hb hr hlk hml hown hT hK hA hw hl
  have hl : lv_has ls 4 [(0, .ref (a 0)), (1, .int i1), (2, .int i2), (3, .int i3)] := hl
  unfold f_X10_pixel at h
  refine lv_aload_n hx hb dX10_pixel_0 rfl (lv_at hl 0 rfl) ?_
  refine lv_iload_n hx hb dX10_pixel_1 rfl (lv_at hl 1 rfl) ?_
  refine lv_iload_n hx hb dX10_pixel_2 rfl (lv_at hl 2 rfl) ?_
  refine lv_iload_n hx hb dX10_pixel_3 rfl (lv_at hl 3 rfl) ?_
  obtain ⟨r1, er1, h⟩ := g_cl_some h
  refine b_callV hx hb hml hown hT hK hA hw mk_X10_262 (c_X10_hasPagePixel l D g a rnd S i1 i2 i3 r1 er1) [0, 1, 3, 4] [2, 5, 6] rfl (by decide) 0 0 rfl rfl rfl rfl hl.1 [] rfl (Nat.le_of_ble_eq_true rfl) ⟨Nat.le_of_ble_eq_true rfl, Nat.le_of_ble_eq_true rfl⟩ ⟨Nat.zero_le _, Nat.zero_le _⟩ dX10_pixel_4 (wb' := [k_Atlas g a rnd, k_StO g a 4, k_Sheet g a 5 (S 0 0) (S 1) (S 2) (S 3) (S 4), k_Settings g a 10 (S 5 0) (S 5 1) (S 5 2) (S 5 3) (S 5 4) (S 5 5) (S 5 6) (S 5 7) (S 5 8) (S 5 9) (S 5 10) (S 5 11), k_Places g a 11 (S 6 0) (S 7) (S 8) (S 9) (S 10) (S 11), k_Catalog g a 30 lefts tops cwidths cheights originals orients, k_PkO g a 37 (a 4) (a 30)]) rfl (b_e1 rfl (b_e1 rfl (b_e1 rfl b_e0))) 7 rfl (by decide) (st2 := [.int r1]) rfl (fun H locs hw => ?_)
  refine lv_if_eq (tgt := 23) hx hb dX10_pixel_7 (by decide) (fun hc7 => ?_) (fun hc7 => ?_)
  · rw [if_pos hc7] at h
    refine lv_iconst (v := -1) hx hb dX10_pixel_23 (by decide) ?_
    obtain rfl := Option.some.inj h
    exact b_iret hQ hx hb hr hlk hw rfl dX10_pixel_24
  · rw [if_neg hc7] at h
    refine lv_aload_n hx hb dX10_pixel_10 rfl (lv_at hl 0 rfl) ?_
    refine b_get hx hb hT hK hown fl_X10_62 hw 0 0 rfl rfl (v := .ref (a 37)) rfl dX10_pixel_11 ?_
    refine lv_iload_n hx hb dX10_pixel_14 rfl (lv_at hl 1 rfl) ?_
    refine lv_iload_n hx hb dX10_pixel_15 rfl (lv_at hl 2 rfl) ?_
    refine lv_iload_n hx hb dX10_pixel_16 rfl (lv_at hl 3 rfl) ?_
    obtain ⟨r2, er2, h⟩ := g_cl_some h
    refine b_callV hx hb hml hown hT hK hA hw mk_X10_265 (c_X3_colorOn l D g a 37 a 4 a 30 S lefts tops cwidths cheights originals orients i1 i2 i3 r2 er2) [6, 1, 2, 3, 4, 5] [0] rfl (by decide) 6 0 rfl rfl rfl rfl hl.1 [] rfl (Nat.le_of_ble_eq_true rfl) ⟨Nat.le_of_ble_eq_true rfl, Nat.le_of_ble_eq_true rfl⟩ ⟨Nat.zero_le _, Nat.zero_le _⟩ dX10_pixel_17 (wb' := [k_Atlas g a rnd, k_StO g a 4, k_Sheet g a 5 (S 0 0) (S 1) (S 2) (S 3) (S 4), k_Settings g a 10 (S 5 0) (S 5 1) (S 5 2) (S 5 3) (S 5 4) (S 5 5) (S 5 6) (S 5 7) (S 5 8) (S 5 9) (S 5 10) (S 5 11), k_Places g a 11 (S 6 0) (S 7) (S 8) (S 9) (S 10) (S 11), k_Catalog g a 30 lefts tops cwidths cheights originals orients, k_PkO g a 37 (a 4) (a 30)]) rfl (b_e1 rfl b_e0) 7 rfl (by decide) (st2 := [.int r2]) rfl (fun H locs hw => ?_)
    refine lv_goto (tgt := 24) hx hb dX10_pixel_20 (by decide) ?_
    obtain rfl := Option.some.inj h
    exact b_iret hQ hx hb hr hlk hw rfl dX10_pixel_24
