set_option maxRecDepth 100000 in
set_option maxHeartbeats 4000000 in
theorem c_X10_setGroup (l : Launch) (D : va_G) (g : Nat → ClassId) (a : Nat → Nat) (rnd : Int64) (S : Nat → Nat → Int32) (hLatest : Int32) (hCount : Int32) (H0 : Nat → Nat → Int32) (H1 : Nat → Nat → Int32) (H2 : Nat → Nat → Int32) (H3 : Nat → Nat → Int32) (H4 : Nat → Nat → Int32) (i1 : Int32) (i2 : Int32) (u : Int32 × (Nat → Nat → Int32) × Int32 × Int32 × (Nat → Nat → Int32) × (Nat → Nat → Int32) × (Nat → Nat → Int32) × (Nat → Nat → Int32) × (Nat → Nat → Int32)) (h : f_X10_setGroup S hLatest hCount H0 H1 H2 H3 H4 i1 i2 = some u) : b_Ct l yX10_setGroup cX10_setGroup 4 (some .int) 4 82 D g [.ref (a 0), .int i1, .int i2] [k_Atlas g a rnd, k_StO g a 4, k_Sheet g a 5 (S 0 0) (S 1) (S 2) (S 3) (S 4), k_Settings g a 10 (S 5 0) (S 5 1) (S 5 2) (S 5 3) (S 5 4) (S 5 5) (S 5 6) (S 5 7) (S 5 8) (S 5 9) (S 5 10) (S 5 11), k_Places g a 11 (S 6 0) (S 7) (S 8) (S 9) (S 10) (S 11), k_Hist g a 51 hLatest hCount, k_StO g a 53, k_Sheet g a 54 (H0 0 0) (H0 1) (H0 2) (H0 3) (H0 4), k_Settings g a 59 (H0 5 0) (H0 5 1) (H0 5 2) (H0 5 3) (H0 5 4) (H0 5 5) (H0 5 6) (H0 5 7) (H0 5 8) (H0 5 9) (H0 5 10) (H0 5 11), k_Places g a 60 (H0 6 0) (H0 7) (H0 8) (H0 9) (H0 10) (H0 11), k_StO g a 66, k_Sheet g a 67 (H1 0 0) (H1 1) (H1 2) (H1 3) (H1 4), k_Settings g a 72 (H1 5 0) (H1 5 1) (H1 5 2) (H1 5 3) (H1 5 4) (H1 5 5) (H1 5 6) (H1 5 7) (H1 5 8) (H1 5 9) (H1 5 10) (H1 5 11), k_Places g a 73 (H1 6 0) (H1 7) (H1 8) (H1 9) (H1 10) (H1 11), k_StO g a 79, k_Sheet g a 80 (H2 0 0) (H2 1) (H2 2) (H2 3) (H2 4), k_Settings g a 85 (H2 5 0) (H2 5 1) (H2 5 2) (H2 5 3) (H2 5 4) (H2 5 5) (H2 5 6) (H2 5 7) (H2 5 8) (H2 5 9) (H2 5 10) (H2 5 11), k_Places g a 86 (H2 6 0) (H2 7) (H2 8) (H2 9) (H2 10) (H2 11), k_StO g a 92, k_Sheet g a 93 (H3 0 0) (H3 1) (H3 2) (H3 3) (H3 4), k_Settings g a 98 (H3 5 0) (H3 5 1) (H3 5 2) (H3 5 3) (H3 5 4) (H3 5 5) (H3 5 6) (H3 5 7) (H3 5 8) (H3 5 9) (H3 5 10) (H3 5 11), k_Places g a 99 (H3 6 0) (H3 7) (H3 8) (H3 9) (H3 10) (H3 11), k_StO g a 105, k_Sheet g a 106 (H4 0 0) (H4 1) (H4 2) (H4 3) (H4 4), k_Settings g a 111 (H4 5 0) (H4 5 1) (H4 5 2) (H4 5 3) (H4 5 4) (H4 5 5) (H4 5 6) (H4 5 7) (H4 5 8) (H4 5 9) (H4 5 10) (H4 5 11), k_Places g a 112 (H4 6 0) (H4 7) (H4 8) (H4 9) (H4 10) (H4 11)] [k_Atlas g a rnd, k_StO g a 4, k_Sheet g a 5 (S 0 0) (S 1) (S 2) (u.2.1 3) (S 4), k_Settings g a 10 (S 5 0) (S 5 1) (S 5 2) (S 5 3) (S 5 4) (S 5 5) (S 5 6) (S 5 7) (S 5 8) (S 5 9) (S 5 10) (S 5 11), k_Places g a 11 (S 6 0) (S 7) (S 8) (S 9) (S 10) (S 11), k_Hist g a 51 u.2.2.1 u.2.2.2.1, k_StO g a 53, k_Sheet g a 54 (u.2.2.2.2.1 0 0) (u.2.2.2.2.1 1) (u.2.2.2.2.1 2) (u.2.2.2.2.1 3) (u.2.2.2.2.1 4), k_Settings g a 59 (u.2.2.2.2.1 5 0) (u.2.2.2.2.1 5 1) (u.2.2.2.2.1 5 2) (u.2.2.2.2.1 5 3) (u.2.2.2.2.1 5 4) (u.2.2.2.2.1 5 5) (u.2.2.2.2.1 5 6) (u.2.2.2.2.1 5 7) (u.2.2.2.2.1 5 8) (u.2.2.2.2.1 5 9) (u.2.2.2.2.1 5 10) (u.2.2.2.2.1 5 11), k_Places g a 60 (u.2.2.2.2.1 6 0) (u.2.2.2.2.1 7) (u.2.2.2.2.1 8) (u.2.2.2.2.1 9) (u.2.2.2.2.1 10) (u.2.2.2.2.1 11), k_StO g a 66, k_Sheet g a 67 (u.2.2.2.2.2.1 0 0) (u.2.2.2.2.2.1 1) (u.2.2.2.2.2.1 2) (u.2.2.2.2.2.1 3) (u.2.2.2.2.2.1 4), k_Settings g a 72 (u.2.2.2.2.2.1 5 0) (u.2.2.2.2.2.1 5 1) (u.2.2.2.2.2.1 5 2) (u.2.2.2.2.2.1 5 3) (u.2.2.2.2.2.1 5 4) (u.2.2.2.2.2.1 5 5) (u.2.2.2.2.2.1 5 6) (u.2.2.2.2.2.1 5 7) (u.2.2.2.2.2.1 5 8) (u.2.2.2.2.2.1 5 9) (u.2.2.2.2.2.1 5 10) (u.2.2.2.2.2.1 5 11), k_Places g a 73 (u.2.2.2.2.2.1 6 0) (u.2.2.2.2.2.1 7) (u.2.2.2.2.2.1 8) (u.2.2.2.2.2.1 9) (u.2.2.2.2.2.1 10) (u.2.2.2.2.2.1 11), k_StO g a 79, k_Sheet g a 80 (u.2.2.2.2.2.2.1 0 0) (u.2.2.2.2.2.2.1 1) (u.2.2.2.2.2.2.1 2) (u.2.2.2.2.2.2.1 3) (u.2.2.2.2.2.2.1 4), k_Settings g a 85 (u.2.2.2.2.2.2.1 5 0) (u.2.2.2.2.2.2.1 5 1) (u.2.2.2.2.2.2.1 5 2) (u.2.2.2.2.2.2.1 5 3) (u.2.2.2.2.2.2.1 5 4) (u.2.2.2.2.2.2.1 5 5) (u.2.2.2.2.2.2.1 5 6) (u.2.2.2.2.2.2.1 5 7) (u.2.2.2.2.2.2.1 5 8) (u.2.2.2.2.2.2.1 5 9) (u.2.2.2.2.2.2.1 5 10) (u.2.2.2.2.2.2.1 5 11), k_Places g a 86 (u.2.2.2.2.2.2.1 6 0) (u.2.2.2.2.2.2.1 7) (u.2.2.2.2.2.2.1 8) (u.2.2.2.2.2.2.1 9) (u.2.2.2.2.2.2.1 10) (u.2.2.2.2.2.2.1 11), k_StO g a 92, k_Sheet g a 93 (u.2.2.2.2.2.2.2.1 0 0) (u.2.2.2.2.2.2.2.1 1) (u.2.2.2.2.2.2.2.1 2) (u.2.2.2.2.2.2.2.1 3) (u.2.2.2.2.2.2.2.1 4), k_Settings g a 98 (u.2.2.2.2.2.2.2.1 5 0) (u.2.2.2.2.2.2.2.1 5 1) (u.2.2.2.2.2.2.2.1 5 2) (u.2.2.2.2.2.2.2.1 5 3) (u.2.2.2.2.2.2.2.1 5 4) (u.2.2.2.2.2.2.2.1 5 5) (u.2.2.2.2.2.2.2.1 5 6) (u.2.2.2.2.2.2.2.1 5 7) (u.2.2.2.2.2.2.2.1 5 8) (u.2.2.2.2.2.2.2.1 5 9) (u.2.2.2.2.2.2.2.1 5 10) (u.2.2.2.2.2.2.2.1 5 11), k_Places g a 99 (u.2.2.2.2.2.2.2.1 6 0) (u.2.2.2.2.2.2.2.1 7) (u.2.2.2.2.2.2.2.1 8) (u.2.2.2.2.2.2.2.1 9) (u.2.2.2.2.2.2.2.1 10) (u.2.2.2.2.2.2.2.1 11), k_StO g a 105, k_Sheet g a 106 (u.2.2.2.2.2.2.2.2 0 0) (u.2.2.2.2.2.2.2.2 1) (u.2.2.2.2.2.2.2.2 2) (u.2.2.2.2.2.2.2.2 3) (u.2.2.2.2.2.2.2.2 4), k_Settings g a 111 (u.2.2.2.2.2.2.2.2 5 0) (u.2.2.2.2.2.2.2.2 5 1) (u.2.2.2.2.2.2.2.2 5 2) (u.2.2.2.2.2.2.2.2 5 3) (u.2.2.2.2.2.2.2.2 5 4) (u.2.2.2.2.2.2.2.2 5 5) (u.2.2.2.2.2.2.2.2 5 6) (u.2.2.2.2.2.2.2.2 5 7) (u.2.2.2.2.2.2.2.2 5 8) (u.2.2.2.2.2.2.2.2 5 9) (u.2.2.2.2.2.2.2.2 5 10) (u.2.2.2.2.2.2.2.2 5 11), k_Places g a 112 (u.2.2.2.2.2.2.2.2 6 0) (u.2.2.2.2.2.2.2.2 7) (u.2.2.2.2.2.2.2.2 8) (u.2.2.2.2.2.2.2.2 9) (u.2.2.2.2.2.2.2.2 10) (u.2.2.2.2.2.2.2.2 11)] (some (.int u.1)) := by
  refine b_start RX10 (by decide) rfl (Nat.le_of_ble_eq_true rfl) rfl ?_
  intro p e s m args below meth c A ls Q hQ hx hb hr hlk hml hown hT hK hA hw hl
  have hl : lv_has ls 4 [(0, .ref (a 0)), (1, .int i1), (2, .int i2)] := hl
  unfold f_X10_setGroup at h
  refine lv_aload_n hx hb dX10_setGroup_0 rfl (lv_at hl 0 rfl) ?_
  refine b_get hx hb hT hK hown fl_X10_47 hw 0 0 rfl rfl (v := .ref (a 4)) rfl dX10_setGroup_1 ?_
  refine b_get hx hb hT hK hown fl_X10_85 hw 1 0 rfl rfl (v := .ref (a 5)) rfl dX10_setGroup_4 ?_
  refine lv_iload_n hx hb dX10_setGroup_7 rfl (lv_at hl 1 rfl) ?_
  refine b_callV hx hb hml hown hT hK hA hw mk_X10_120 (c_X6_has l D g a 5 (S 0 0) (S 1) (S 2) (S 3) (S 4) i1) [2] [0, 1, 3, 4, 5, 6, 7, 8, 9, 10, 11, 12, 13, 14, 15, 16, 17, 18, 19, 20, 21, 22, 23, 24, 25] rfl (by decide) 2 0 rfl rfl rfl rfl hl.1 [] rfl (Nat.le_of_ble_eq_true rfl) ⟨Nat.le_of_ble_eq_true rfl, Nat.le_of_ble_eq_true rfl⟩ ⟨Nat.zero_le _, Nat.zero_le _⟩ dX10_setGroup_8 (wb' := [k_Atlas g a rnd, k_StO g a 4, k_Sheet g a 5 (S 0 0) (S 1) (S 2) (S 3) (S 4), k_Settings g a 10 (S 5 0) (S 5 1) (S 5 2) (S 5 3) (S 5 4) (S 5 5) (S 5 6) (S 5 7) (S 5 8) (S 5 9) (S 5 10) (S 5 11), k_Places g a 11 (S 6 0) (S 7) (S 8) (S 9) (S 10) (S 11), k_Hist g a 51 hLatest hCount, k_StO g a 53, k_Sheet g a 54 (H0 0 0) (H0 1) (H0 2) (H0 3) (H0 4), k_Settings g a 59 (H0 5 0) (H0 5 1) (H0 5 2) (H0 5 3) (H0 5 4) (H0 5 5) (H0 5 6) (H0 5 7) (H0 5 8) (H0 5 9) (H0 5 10) (H0 5 11), k_Places g a 60 (H0 6 0) (H0 7) (H0 8) (H0 9) (H0 10) (H0 11), k_StO g a 66, k_Sheet g a 67 (H1 0 0) (H1 1) (H1 2) (H1 3) (H1 4), k_Settings g a 72 (H1 5 0) (H1 5 1) (H1 5 2) (H1 5 3) (H1 5 4) (H1 5 5) (H1 5 6) (H1 5 7) (H1 5 8) (H1 5 9) (H1 5 10) (H1 5 11), k_Places g a 73 (H1 6 0) (H1 7) (H1 8) (H1 9) (H1 10) (H1 11), k_StO g a 79, k_Sheet g a 80 (H2 0 0) (H2 1) (H2 2) (H2 3) (H2 4), k_Settings g a 85 (H2 5 0) (H2 5 1) (H2 5 2) (H2 5 3) (H2 5 4) (H2 5 5) (H2 5 6) (H2 5 7) (H2 5 8) (H2 5 9) (H2 5 10) (H2 5 11), k_Places g a 86 (H2 6 0) (H2 7) (H2 8) (H2 9) (H2 10) (H2 11), k_StO g a 92, k_Sheet g a 93 (H3 0 0) (H3 1) (H3 2) (H3 3) (H3 4), k_Settings g a 98 (H3 5 0) (H3 5 1) (H3 5 2) (H3 5 3) (H3 5 4) (H3 5 5) (H3 5 6) (H3 5 7) (H3 5 8) (H3 5 9) (H3 5 10) (H3 5 11), k_Places g a 99 (H3 6 0) (H3 7) (H3 8) (H3 9) (H3 10) (H3 11), k_StO g a 105, k_Sheet g a 106 (H4 0 0) (H4 1) (H4 2) (H4 3) (H4 4), k_Settings g a 111 (H4 5 0) (H4 5 1) (H4 5 2) (H4 5 3) (H4 5 4) (H4 5 5) (H4 5 6) (H4 5 7) (H4 5 8) (H4 5 9) (H4 5 10) (H4 5 11), k_Places g a 112 (H4 6 0) (H4 7) (H4 8) (H4 9) (H4 10) (H4 11)]) rfl (b_e1 rfl (b_e1 rfl (b_e1 rfl (b_e1 rfl (b_e1 rfl (b_e1 rfl (b_e1 rfl (b_e1 rfl (b_e1 rfl (b_e1 rfl (b_e1 rfl (b_e1 rfl (b_e1 rfl (b_e1 rfl (b_e1 rfl (b_e1 rfl (b_e1 rfl (b_e1 rfl (b_e1 rfl (b_e1 rfl (b_e1 rfl (b_e1 rfl (b_e1 rfl (b_e1 rfl (b_e1 rfl b_e0))))))))))))))))))))))))) 26 rfl (by decide) (st2 := [.int (f_X6_has (S 0 0) i1)]) rfl (fun H locs hw => ?_)
  refine lv_if_eq (tgt := 23) hx hb dX10_setGroup_11 (by decide) (fun hc11 => ?_) (fun hc11 => ?_)
  · rw [if_pos hc11] at h
    refine lv_iconst (v := -1) hx hb dX10_setGroup_23 (by decide) ?_
    obtain rfl := Option.some.inj h
    exact b_iret hQ hx hb hr hlk hw rfl dX10_setGroup_24
  · rw [if_neg hc11] at h
    refine lv_iload_n hx hb dX10_setGroup_14 rfl (lv_at hl 2 rfl) ?_
    refine lv_iconst (v := 0) hx hb dX10_setGroup_15 (by decide) ?_
    refine lv_iconst (v := 3) hx hb dX10_setGroup_16 (by decide) ?_
    refine b_callS hx hb hml hown hT hK hA hw mk_X10_69 (c_X10_isWithin l D g i2 (0 : Int32) (3 : Int32)) [] [0, 1, 2, 3, 4, 5, 6, 7, 8, 9, 10, 11, 12, 13, 14, 15, 16, 17, 18, 19, 20, 21, 22, 23, 24, 25] rfl (by decide) rfl hl.1 [] rfl (Nat.le_of_ble_eq_true rfl) ⟨Nat.le_of_ble_eq_true rfl, Nat.le_of_ble_eq_true rfl⟩ ⟨Nat.zero_le _, Nat.zero_le _⟩ dX10_setGroup_17 (wb' := [k_Atlas g a rnd, k_StO g a 4, k_Sheet g a 5 (S 0 0) (S 1) (S 2) (S 3) (S 4), k_Settings g a 10 (S 5 0) (S 5 1) (S 5 2) (S 5 3) (S 5 4) (S 5 5) (S 5 6) (S 5 7) (S 5 8) (S 5 9) (S 5 10) (S 5 11), k_Places g a 11 (S 6 0) (S 7) (S 8) (S 9) (S 10) (S 11), k_Hist g a 51 hLatest hCount, k_StO g a 53, k_Sheet g a 54 (H0 0 0) (H0 1) (H0 2) (H0 3) (H0 4), k_Settings g a 59 (H0 5 0) (H0 5 1) (H0 5 2) (H0 5 3) (H0 5 4) (H0 5 5) (H0 5 6) (H0 5 7) (H0 5 8) (H0 5 9) (H0 5 10) (H0 5 11), k_Places g a 60 (H0 6 0) (H0 7) (H0 8) (H0 9) (H0 10) (H0 11), k_StO g a 66, k_Sheet g a 67 (H1 0 0) (H1 1) (H1 2) (H1 3) (H1 4), k_Settings g a 72 (H1 5 0) (H1 5 1) (H1 5 2) (H1 5 3) (H1 5 4) (H1 5 5) (H1 5 6) (H1 5 7) (H1 5 8) (H1 5 9) (H1 5 10) (H1 5 11), k_Places g a 73 (H1 6 0) (H1 7) (H1 8) (H1 9) (H1 10) (H1 11), k_StO g a 79, k_Sheet g a 80 (H2 0 0) (H2 1) (H2 2) (H2 3) (H2 4), k_Settings g a 85 (H2 5 0) (H2 5 1) (H2 5 2) (H2 5 3) (H2 5 4) (H2 5 5) (H2 5 6) (H2 5 7) (H2 5 8) (H2 5 9) (H2 5 10) (H2 5 11), k_Places g a 86 (H2 6 0) (H2 7) (H2 8) (H2 9) (H2 10) (H2 11), k_StO g a 92, k_Sheet g a 93 (H3 0 0) (H3 1) (H3 2) (H3 3) (H3 4), k_Settings g a 98 (H3 5 0) (H3 5 1) (H3 5 2) (H3 5 3) (H3 5 4) (H3 5 5) (H3 5 6) (H3 5 7) (H3 5 8) (H3 5 9) (H3 5 10) (H3 5 11), k_Places g a 99 (H3 6 0) (H3 7) (H3 8) (H3 9) (H3 10) (H3 11), k_StO g a 105, k_Sheet g a 106 (H4 0 0) (H4 1) (H4 2) (H4 3) (H4 4), k_Settings g a 111 (H4 5 0) (H4 5 1) (H4 5 2) (H4 5 3) (H4 5 4) (H4 5 5) (H4 5 6) (H4 5 7) (H4 5 8) (H4 5 9) (H4 5 10) (H4 5 11), k_Places g a 112 (H4 6 0) (H4 7) (H4 8) (H4 9) (H4 10) (H4 11)]) rfl (b_e1 rfl (b_e1 rfl (b_e1 rfl (b_e1 rfl (b_e1 rfl (b_e1 rfl (b_e1 rfl (b_e1 rfl (b_e1 rfl (b_e1 rfl (b_e1 rfl (b_e1 rfl (b_e1 rfl (b_e1 rfl (b_e1 rfl (b_e1 rfl (b_e1 rfl (b_e1 rfl (b_e1 rfl (b_e1 rfl (b_e1 rfl (b_e1 rfl (b_e1 rfl (b_e1 rfl (b_e1 rfl (b_e1 rfl b_e0)))))))))))))))))))))))))) 26 rfl (by decide) (st2 := [.int (f_X10_isWithin i2 (0 : Int32) (3 : Int32))]) rfl (fun H locs hw => ?_)
    refine lv_if_ne (tgt := 25) hx hb dX10_setGroup_20 (by decide) (fun hc20 => ?_) (fun hc20 => ?_)
    · rw [if_neg hc20] at h
      refine lv_aload_n hx hb dX10_setGroup_25 rfl (lv_at hl 0 rfl) ?_
      refine b_get hx hb hT hK hown fl_X10_47 hw 0 0 rfl rfl (v := .ref (a 4)) rfl dX10_setGroup_26 ?_
      refine b_get hx hb hT hK hown fl_X10_85 hw 1 0 rfl rfl (v := .ref (a 5)) rfl dX10_setGroup_29 ?_
      refine b_get hx hb hT hK hown fl_X10_148 hw 2 0 rfl rfl (v := .ref (a 8)) rfl dX10_setGroup_32 ?_
      refine lv_iload_n hx hb dX10_setGroup_35 rfl (lv_at hl 1 rfl) ?_
      obtain ⟨x1, ex1, hix1, h⟩ := g_rd_some h
      refine b_iald hx hb hK hw 2 3 rfl (f := (S 3)) rfl hix1 ex1 dX10_setGroup_36 ?_
      refine lv_istore_n (lv' := [(3, .int x1), (0, .ref (a 0)), (1, .int i1), (2, .int i2)]) hx hb dX10_setGroup_37 rfl hl (by decide) rfl (fun ls hl => ?_)
      refine lv_aload_n hx hb dX10_setGroup_38 rfl (lv_at hl 1 rfl) ?_
      refine b_get hx hb hT hK hown fl_X10_26 hw 0 0 rfl rfl (v := .ref (a 51)) rfl dX10_setGroup_39 ?_
      refine lv_aload_n hx hb dX10_setGroup_42 rfl (lv_at hl 1 rfl) ?_
      refine b_get hx hb hT hK hown fl_X10_47 hw 0 0 rfl rfl (v := .ref (a 4)) rfl dX10_setGroup_43 ?_
      obtain ⟨r2, er2, h⟩ := g_cl_some h
      refine b_callV hx hb hml hown hT hK hA hw mk_X10_97 (c_X2_record l D g a 51 a 4 hLatest hCount H0 H1 H2 H3 H4 S r2 er2) [5, 6, 7, 8, 9, 10, 11, 12, 13, 14, 15, 16, 17, 18, 19, 20, 21, 22, 23, 24, 25, 1, 2, 3, 4] [0] rfl (by decide) 5 0 rfl rfl rfl rfl hl.1 [] rfl (Nat.le_of_ble_eq_true rfl) ⟨Nat.le_of_ble_eq_true rfl, Nat.le_of_ble_eq_true rfl⟩ ⟨Nat.zero_le _, Nat.zero_le _⟩ dX10_setGroup_46 (wb' := [k_Atlas g a rnd, k_StO g a 4, k_Sheet g a 5 (S 0 0) (S 1) (S 2) (S 3) (S 4), k_Settings g a 10 (S 5 0) (S 5 1) (S 5 2) (S 5 3) (S 5 4) (S 5 5) (S 5 6) (S 5 7) (S 5 8) (S 5 9) (S 5 10) (S 5 11), k_Places g a 11 (S 6 0) (S 7) (S 8) (S 9) (S 10) (S 11), k_Hist g a 51 r2.1 r2.2.1, k_StO g a 53, k_Sheet g a 54 (r2.2.2.1 0 0) (r2.2.2.1 1) (r2.2.2.1 2) (r2.2.2.1 3) (r2.2.2.1 4), k_Settings g a 59 (r2.2.2.1 5 0) (r2.2.2.1 5 1) (r2.2.2.1 5 2) (r2.2.2.1 5 3) (r2.2.2.1 5 4) (r2.2.2.1 5 5) (r2.2.2.1 5 6) (r2.2.2.1 5 7) (r2.2.2.1 5 8) (r2.2.2.1 5 9) (r2.2.2.1 5 10) (r2.2.2.1 5 11), k_Places g a 60 (r2.2.2.1 6 0) (r2.2.2.1 7) (r2.2.2.1 8) (r2.2.2.1 9) (r2.2.2.1 10) (r2.2.2.1 11), k_StO g a 66, k_Sheet g a 67 (r2.2.2.2.1 0 0) (r2.2.2.2.1 1) (r2.2.2.2.1 2) (r2.2.2.2.1 3) (r2.2.2.2.1 4), k_Settings g a 72 (r2.2.2.2.1 5 0) (r2.2.2.2.1 5 1) (r2.2.2.2.1 5 2) (r2.2.2.2.1 5 3) (r2.2.2.2.1 5 4) (r2.2.2.2.1 5 5) (r2.2.2.2.1 5 6) (r2.2.2.2.1 5 7) (r2.2.2.2.1 5 8) (r2.2.2.2.1 5 9) (r2.2.2.2.1 5 10) (r2.2.2.2.1 5 11), k_Places g a 73 (r2.2.2.2.1 6 0) (r2.2.2.2.1 7) (r2.2.2.2.1 8) (r2.2.2.2.1 9) (r2.2.2.2.1 10) (r2.2.2.2.1 11), k_StO g a 79, k_Sheet g a 80 (r2.2.2.2.2.1 0 0) (r2.2.2.2.2.1 1) (r2.2.2.2.2.1 2) (r2.2.2.2.2.1 3) (r2.2.2.2.2.1 4), k_Settings g a 85 (r2.2.2.2.2.1 5 0) (r2.2.2.2.2.1 5 1) (r2.2.2.2.2.1 5 2) (r2.2.2.2.2.1 5 3) (r2.2.2.2.2.1 5 4) (r2.2.2.2.2.1 5 5) (r2.2.2.2.2.1 5 6) (r2.2.2.2.2.1 5 7) (r2.2.2.2.2.1 5 8) (r2.2.2.2.2.1 5 9) (r2.2.2.2.2.1 5 10) (r2.2.2.2.2.1 5 11), k_Places g a 86 (r2.2.2.2.2.1 6 0) (r2.2.2.2.2.1 7) (r2.2.2.2.2.1 8) (r2.2.2.2.2.1 9) (r2.2.2.2.2.1 10) (r2.2.2.2.2.1 11), k_StO g a 92, k_Sheet g a 93 (r2.2.2.2.2.2.1 0 0) (r2.2.2.2.2.2.1 1) (r2.2.2.2.2.2.1 2) (r2.2.2.2.2.2.1 3) (r2.2.2.2.2.2.1 4), k_Settings g a 98 (r2.2.2.2.2.2.1 5 0) (r2.2.2.2.2.2.1 5 1) (r2.2.2.2.2.2.1 5 2) (r2.2.2.2.2.2.1 5 3) (r2.2.2.2.2.2.1 5 4) (r2.2.2.2.2.2.1 5 5) (r2.2.2.2.2.2.1 5 6) (r2.2.2.2.2.2.1 5 7) (r2.2.2.2.2.2.1 5 8) (r2.2.2.2.2.2.1 5 9) (r2.2.2.2.2.2.1 5 10) (r2.2.2.2.2.2.1 5 11), k_Places g a 99 (r2.2.2.2.2.2.1 6 0) (r2.2.2.2.2.2.1 7) (r2.2.2.2.2.2.1 8) (r2.2.2.2.2.2.1 9) (r2.2.2.2.2.2.1 10) (r2.2.2.2.2.2.1 11), k_StO g a 105, k_Sheet g a 106 (r2.2.2.2.2.2.2 0 0) (r2.2.2.2.2.2.2 1) (r2.2.2.2.2.2.2 2) (r2.2.2.2.2.2.2 3) (r2.2.2.2.2.2.2 4), k_Settings g a 111 (r2.2.2.2.2.2.2 5 0) (r2.2.2.2.2.2.2 5 1) (r2.2.2.2.2.2.2 5 2) (r2.2.2.2.2.2.2 5 3) (r2.2.2.2.2.2.2 5 4) (r2.2.2.2.2.2.2 5 5) (r2.2.2.2.2.2.2 5 6) (r2.2.2.2.2.2.2 5 7) (r2.2.2.2.2.2.2 5 8) (r2.2.2.2.2.2.2 5 9) (r2.2.2.2.2.2.2 5 10) (r2.2.2.2.2.2.2 5 11), k_Places g a 112 (r2.2.2.2.2.2.2 6 0) (r2.2.2.2.2.2.2 7) (r2.2.2.2.2.2.2 8) (r2.2.2.2.2.2.2 9) (r2.2.2.2.2.2.2 10) (r2.2.2.2.2.2.2 11)]) rfl (b_e1 rfl b_e0) 26 rfl (by decide) (st2 := []) rfl (fun H locs hw => ?_)
      refine lv_aload_n hx hb dX10_setGroup_49 rfl (lv_at hl 1 rfl) ?_
      refine b_get hx hb hT hK hown fl_X10_47 hw 0 0 rfl rfl (v := .ref (a 4)) rfl dX10_setGroup_50 ?_
      refine b_get hx hb hT hK hown fl_X10_85 hw 1 0 rfl rfl (v := .ref (a 5)) rfl dX10_setGroup_53 ?_
      refine b_get hx hb hT hK hown fl_X10_148 hw 2 0 rfl rfl (v := .ref (a 8)) rfl dX10_setGroup_56 ?_
      refine lv_iload_n hx hb dX10_setGroup_59 rfl (lv_at hl 2 rfl) ?_
      refine lv_iload_n hx hb dX10_setGroup_60 rfl (lv_at hl 3 rfl) ?_
      obtain ⟨f3, ef3, hif3, h⟩ := g_wr_some h
      refine b_iast hx hb hK hw 2 3 rfl (f := (S 3)) rfl hif3 ef3 rfl (wb' := [k_Atlas g a rnd, k_StO g a 4, k_Sheet g a 5 (S 0 0) (S 1) (S 2) f3 (S 4), k_Settings g a 10 (S 5 0) (S 5 1) (S 5 2) (S 5 3) (S 5 4) (S 5 5) (S 5 6) (S 5 7) (S 5 8) (S 5 9) (S 5 10) (S 5 11), k_Places g a 11 (S 6 0) (S 7) (S 8) (S 9) (S 10) (S 11), k_Hist g a 51 r2.1 r2.2.1, k_StO g a 53, k_Sheet g a 54 (r2.2.2.1 0 0) (r2.2.2.1 1) (r2.2.2.1 2) (r2.2.2.1 3) (r2.2.2.1 4), k_Settings g a 59 (r2.2.2.1 5 0) (r2.2.2.1 5 1) (r2.2.2.1 5 2) (r2.2.2.1 5 3) (r2.2.2.1 5 4) (r2.2.2.1 5 5) (r2.2.2.1 5 6) (r2.2.2.1 5 7) (r2.2.2.1 5 8) (r2.2.2.1 5 9) (r2.2.2.1 5 10) (r2.2.2.1 5 11), k_Places g a 60 (r2.2.2.1 6 0) (r2.2.2.1 7) (r2.2.2.1 8) (r2.2.2.1 9) (r2.2.2.1 10) (r2.2.2.1 11), k_StO g a 66, k_Sheet g a 67 (r2.2.2.2.1 0 0) (r2.2.2.2.1 1) (r2.2.2.2.1 2) (r2.2.2.2.1 3) (r2.2.2.2.1 4), k_Settings g a 72 (r2.2.2.2.1 5 0) (r2.2.2.2.1 5 1) (r2.2.2.2.1 5 2) (r2.2.2.2.1 5 3) (r2.2.2.2.1 5 4) (r2.2.2.2.1 5 5) (r2.2.2.2.1 5 6) (r2.2.2.2.1 5 7) (r2.2.2.2.1 5 8) (r2.2.2.2.1 5 9) (r2.2.2.2.1 5 10) (r2.2.2.2.1 5 11), k_Places g a 73 (r2.2.2.2.1 6 0) (r2.2.2.2.1 7) (r2.2.2.2.1 8) (r2.2.2.2.1 9) (r2.2.2.2.1 10) (r2.2.2.2.1 11), k_StO g a 79, k_Sheet g a 80 (r2.2.2.2.2.1 0 0) (r2.2.2.2.2.1 1) (r2.2.2.2.2.1 2) (r2.2.2.2.2.1 3) (r2.2.2.2.2.1 4), k_Settings g a 85 (r2.2.2.2.2.1 5 0) (r2.2.2.2.2.1 5 1) (r2.2.2.2.2.1 5 2) (r2.2.2.2.2.1 5 3) (r2.2.2.2.2.1 5 4) (r2.2.2.2.2.1 5 5) (r2.2.2.2.2.1 5 6) (r2.2.2.2.2.1 5 7) (r2.2.2.2.2.1 5 8) (r2.2.2.2.2.1 5 9) (r2.2.2.2.2.1 5 10) (r2.2.2.2.2.1 5 11), k_Places g a 86 (r2.2.2.2.2.1 6 0) (r2.2.2.2.2.1 7) (r2.2.2.2.2.1 8) (r2.2.2.2.2.1 9) (r2.2.2.2.2.1 10) (r2.2.2.2.2.1 11), k_StO g a 92, k_Sheet g a 93 (r2.2.2.2.2.2.1 0 0) (r2.2.2.2.2.2.1 1) (r2.2.2.2.2.2.1 2) (r2.2.2.2.2.2.1 3) (r2.2.2.2.2.2.1 4), k_Settings g a 98 (r2.2.2.2.2.2.1 5 0) (r2.2.2.2.2.2.1 5 1) (r2.2.2.2.2.2.1 5 2) (r2.2.2.2.2.2.1 5 3) (r2.2.2.2.2.2.1 5 4) (r2.2.2.2.2.2.1 5 5) (r2.2.2.2.2.2.1 5 6) (r2.2.2.2.2.2.1 5 7) (r2.2.2.2.2.2.1 5 8) (r2.2.2.2.2.2.1 5 9) (r2.2.2.2.2.2.1 5 10) (r2.2.2.2.2.2.1 5 11), k_Places g a 99 (r2.2.2.2.2.2.1 6 0) (r2.2.2.2.2.2.1 7) (r2.2.2.2.2.2.1 8) (r2.2.2.2.2.2.1 9) (r2.2.2.2.2.2.1 10) (r2.2.2.2.2.2.1 11), k_StO g a 105, k_Sheet g a 106 (r2.2.2.2.2.2.2 0 0) (r2.2.2.2.2.2.2 1) (r2.2.2.2.2.2.2 2) (r2.2.2.2.2.2.2 3) (r2.2.2.2.2.2.2 4), k_Settings g a 111 (r2.2.2.2.2.2.2 5 0) (r2.2.2.2.2.2.2 5 1) (r2.2.2.2.2.2.2 5 2) (r2.2.2.2.2.2.2 5 3) (r2.2.2.2.2.2.2 5 4) (r2.2.2.2.2.2.2 5 5) (r2.2.2.2.2.2.2 5 6) (r2.2.2.2.2.2.2 5 7) (r2.2.2.2.2.2.2 5 8) (r2.2.2.2.2.2.2 5 9) (r2.2.2.2.2.2.2 5 10) (r2.2.2.2.2.2.2 5 11), k_Places g a 112 (r2.2.2.2.2.2.2 6 0) (r2.2.2.2.2.2.2 7) (r2.2.2.2.2.2.2 8) (r2.2.2.2.2.2.2 9) (r2.2.2.2.2.2.2 10) (r2.2.2.2.2.2.2 11)]) rfl dX10_setGroup_61 (fun H locs hw => ?_)
      refine lv_iload_n hx hb dX10_setGroup_62 rfl (lv_at hl 0 rfl) ?_
      obtain rfl := Option.some.inj h
      exact b_iret hQ hx hb hr hlk hw rfl dX10_setGroup_63
    · rw [if_pos hc20] at h
      refine lv_iconst (v := -1) hx hb dX10_setGroup_23 (by decide) ?_
      obtain rfl := Option.some.inj h
      exact b_iret hQ hx hb hr hlk hw rfl dX10_setGroup_24
set_option maxRecDepth 100000 in
set_option maxHeartbeats 4000000 in
theorem c_X10_groupOf (l : Launch) (D : va_G) (g : Nat → ClassId) (a : Nat → Nat) (rnd : Int64) (S : Nat → Nat → Int32) (i1 : Int32) (u : Int32) (h : f_X10_groupOf S i1 = some u) : b_Ct l yX10_groupOf cX10_groupOf 2 (some .int) 1 21 D g [.ref (a 0), .int i1] [k_Atlas g a rnd, k_StO g a 4, k_Sheet g a 5 (S 0 0) (S 1) (S 2) (S 3) (S 4)] [k_Atlas g a rnd, k_StO g a 4, k_Sheet g a 5 (S 0 0) (S 1) (S 2) (S 3) (S 4)] (some (.int u)) := by
  refine b_start RX10 (by decide) rfl (Nat.le_of_ble_eq_true rfl) rfl ?_
  intro p e s m args below meth c A ls Q hQ hx hb hr hlk hml hown hT hK hA hw hl
  have hl : lv_has ls 2 [(0, .ref (a 0)), (1, .int i1)] := hl
  unfold f_X10_groupOf at h
  refine lv_aload_n hx hb dX10_groupOf_0 rfl (lv_at hl 0 rfl) ?_
  refine b_get hx hb hT hK hown fl_X10_47 hw 0 0 rfl rfl (v := .ref (a 4)) rfl dX10_groupOf_1 ?_
  refine b_get hx hb hT hK hown fl_X10_85 hw 1 0 rfl rfl (v := .ref (a 5)) rfl dX10_groupOf_4 ?_
  refine lv_iload_n hx hb dX10_groupOf_7 rfl (lv_at hl 1 rfl) ?_
  refine b_callV hx hb hml hown hT hK hA hw mk_X10_120 (c_X6_has l D g a 5 (S 0 0) (S 1) (S 2) (S 3) (S 4) i1) [2] [0, 1] rfl (by decide) 2 0 rfl rfl rfl rfl hl.1 [] rfl (Nat.le_of_ble_eq_true rfl) ⟨Nat.le_of_ble_eq_true rfl, Nat.le_of_ble_eq_true rfl⟩ ⟨Nat.zero_le _, Nat.zero_le _⟩ dX10_groupOf_8 (wb' := [k_Atlas g a rnd, k_StO g a 4, k_Sheet g a 5 (S 0 0) (S 1) (S 2) (S 3) (S 4)]) rfl (b_e1 rfl (b_e1 rfl b_e0)) 3 rfl (by decide) (st2 := [.int (f_X6_has (S 0 0) i1)]) rfl (fun H locs hw => ?_)
  refine lv_if_eq (tgt := 29) hx hb dX10_groupOf_11 (by decide) (fun hc11 => ?_) (fun hc11 => ?_)
  · rw [if_pos hc11] at h
    refine lv_iconst (v := -1) hx hb dX10_groupOf_29 (by decide) ?_
    obtain rfl := Option.some.inj h
    exact b_iret hQ hx hb hr hlk hw rfl dX10_groupOf_30
  · rw [if_neg hc11] at h
    refine lv_aload_n hx hb dX10_groupOf_14 rfl (lv_at hl 0 rfl) ?_
    refine b_get hx hb hT hK hown fl_X10_47 hw 0 0 rfl rfl (v := .ref (a 4)) rfl dX10_groupOf_15 ?_
    refine b_get hx hb hT hK hown fl_X10_85 hw 1 0 rfl rfl (v := .ref (a 5)) rfl dX10_groupOf_18 ?_
    refine b_get hx hb hT hK hown fl_X10_148 hw 2 0 rfl rfl (v := .ref (a 8)) rfl dX10_groupOf_21 ?_
    refine lv_iload_n hx hb dX10_groupOf_24 rfl (lv_at hl 1 rfl) ?_
    obtain ⟨x1, ex1, hix1, h⟩ := g_rd_some h
    refine b_iald hx hb hK hw 2 3 rfl (f := (S 3)) rfl hix1 ex1 dX10_groupOf_25 ?_
    refine lv_goto (tgt := 30) hx hb dX10_groupOf_26 (by decide) ?_
    obtain rfl := Option.some.inj h
    exact b_iret hQ hx hb hr hlk hw rfl dX10_groupOf_30
set_option maxRecDepth 100000 in
set_option maxHeartbeats 4000000 in
theorem c_X10_trimLeft (l : Launch) (D : va_G) (g : Nat → ClassId) (a : Nat → Nat) (rnd : Int64) (S : Nat → Nat → Int32) (lefts : (Nat → Int32)) (tops : (Nat → Int32)) (cwidths : (Nat → Int32)) (cheights : (Nat → Int32)) (originals : (Nat → Int32)) (orients : (Nat → Int32)) (i1 : Int32) (u : Int32) (h : f_X10_trimLeft S lefts i1 = some u) : b_Ct l yX10_trimLeft cX10_trimLeft 2 (some .int) 1 21 D g [.ref (a 0), .int i1] [k_Atlas g a rnd, k_StO g a 4, k_Sheet g a 5 (S 0 0) (S 1) (S 2) (S 3) (S 4), k_Catalog g a 30 lefts tops cwidths cheights originals orients] [k_Atlas g a rnd, k_StO g a 4, k_Sheet g a 5 (S 0 0) (S 1) (S 2) (S 3) (S 4), k_Catalog g a 30 lefts tops cwidths cheights originals orients] (some (.int u)) := by
  refine b_start RX10 (by decide) rfl (Nat.le_of_ble_eq_true rfl) rfl ?_
  intro p e s m args below meth c A ls Q hQ hx hb hr hlk hml hown hT hK hA hw hl
  have hl : lv_has ls 2 [(0, .ref (a 0)), (1, .int i1)] := hl
  unfold f_X10_trimLeft at h
  refine lv_aload_n hx hb dX10_trimLeft_0 rfl (lv_at hl 0 rfl) ?_
  refine b_get hx hb hT hK hown fl_X10_47 hw 0 0 rfl rfl (v := .ref (a 4)) rfl dX10_trimLeft_1 ?_
  refine b_get hx hb hT hK hown fl_X10_85 hw 1 0 rfl rfl (v := .ref (a 5)) rfl dX10_trimLeft_4 ?_
  refine lv_iload_n hx hb dX10_trimLeft_7 rfl (lv_at hl 1 rfl) ?_
  refine b_callV hx hb hml hown hT hK hA hw mk_X10_120 (c_X6_has l D g a 5 (S 0 0) (S 1) (S 2) (S 3) (S 4) i1) [2] [0, 1, 3] rfl (by decide) 2 0 rfl rfl rfl rfl hl.1 [] rfl (Nat.le_of_ble_eq_true rfl) ⟨Nat.le_of_ble_eq_true rfl, Nat.le_of_ble_eq_true rfl⟩ ⟨Nat.zero_le _, Nat.zero_le _⟩ dX10_trimLeft_8 (wb' := [k_Atlas g a rnd, k_StO g a 4, k_Sheet g a 5 (S 0 0) (S 1) (S 2) (S 3) (S 4), k_Catalog g a 30 lefts tops cwidths cheights originals orients]) rfl (b_e1 rfl (b_e1 rfl (b_e1 rfl b_e0))) 4 rfl (by decide) (st2 := [.int (f_X6_has (S 0 0) i1)]) rfl (fun H locs hw => ?_)
  refine lv_if_eq (tgt := 26) hx hb dX10_trimLeft_11 (by decide) (fun hc11 => ?_) (fun hc11 => ?_)
  · rw [if_pos hc11] at h
    refine lv_iconst (v := -1) hx hb dX10_trimLeft_26 (by decide) ?_
    obtain rfl := Option.some.inj h
    exact b_iret hQ hx hb hr hlk hw rfl dX10_trimLeft_27
  · rw [if_neg hc11] at h
    refine lv_aload_n hx hb dX10_trimLeft_14 rfl (lv_at hl 0 rfl) ?_
    refine b_get hx hb hT hK hown fl_X10_53 hw 0 0 rfl rfl (v := .ref (a 30)) rfl dX10_trimLeft_15 ?_
    refine b_get hx hb hT hK hown fl_X10_151 hw 3 0 rfl rfl (v := .ref (a 31)) rfl dX10_trimLeft_18 ?_
    refine lv_iload_n hx hb dX10_trimLeft_21 rfl (lv_at hl 1 rfl) ?_
    obtain ⟨x1, ex1, hix1, h⟩ := g_rd_some h
    refine b_iald hx hb hK hw 3 1 rfl (f := lefts) rfl hix1 ex1 dX10_trimLeft_22 ?_
    refine lv_goto (tgt := 27) hx hb dX10_trimLeft_23 (by decide) ?_
    obtain rfl := Option.some.inj h
    exact b_iret hQ hx hb hr hlk hw rfl dX10_trimLeft_27
set_option maxRecDepth 100000 in
set_option maxHeartbeats 4000000 in
theorem c_X10_trimTop (l : Launch) (D : va_G) (g : Nat → ClassId) (a : Nat → Nat) (rnd : Int64) (S : Nat → Nat → Int32) (lefts : (Nat → Int32)) (tops : (Nat → Int32)) (cwidths : (Nat → Int32)) (cheights : (Nat → Int32)) (originals : (Nat → Int32)) (orients : (Nat → Int32)) (i1 : Int32) (u : Int32) (h : f_X10_trimTop S tops i1 = some u) : b_Ct l yX10_trimTop cX10_trimTop 2 (some .int) 1 21 D g [.ref (a 0), .int i1] [k_Atlas g a rnd, k_StO g a 4, k_Sheet g a 5 (S 0 0) (S 1) (S 2) (S 3) (S 4), k_Catalog g a 30 lefts tops cwidths cheights originals orients] [k_Atlas g a rnd, k_StO g a 4, k_Sheet g a 5 (S 0 0) (S 1) (S 2) (S 3) (S 4), k_Catalog g a 30 lefts tops cwidths cheights originals orients] (some (.int u)) := by
  refine b_start RX10 (by decide) rfl (Nat.le_of_ble_eq_true rfl) rfl ?_
  intro p e s m args below meth c A ls Q hQ hx hb hr hlk hml hown hT hK hA hw hl
  have hl : lv_has ls 2 [(0, .ref (a 0)), (1, .int i1)] := hl
  unfold f_X10_trimTop at h
  refine lv_aload_n hx hb dX10_trimTop_0 rfl (lv_at hl 0 rfl) ?_
  refine b_get hx hb hT hK hown fl_X10_47 hw 0 0 rfl rfl (v := .ref (a 4)) rfl dX10_trimTop_1 ?_
  refine b_get hx hb hT hK hown fl_X10_85 hw 1 0 rfl rfl (v := .ref (a 5)) rfl dX10_trimTop_4 ?_
  refine lv_iload_n hx hb dX10_trimTop_7 rfl (lv_at hl 1 rfl) ?_
  refine b_callV hx hb hml hown hT hK hA hw mk_X10_120 (c_X6_has l D g a 5 (S 0 0) (S 1) (S 2) (S 3) (S 4) i1) [2] [0, 1, 3] rfl (by decide) 2 0 rfl rfl rfl rfl hl.1 [] rfl (Nat.le_of_ble_eq_true rfl) ⟨Nat.le_of_ble_eq_true rfl, Nat.le_of_ble_eq_true rfl⟩ ⟨Nat.zero_le _, Nat.zero_le _⟩ dX10_trimTop_8 (wb' := [k_Atlas g a rnd, k_StO g a 4, k_Sheet g a 5 (S 0 0) (S 1) (S 2) (S 3) (S 4), k_Catalog g a 30 lefts tops cwidths cheights originals orients]) rfl (b_e1 rfl (b_e1 rfl (b_e1 rfl b_e0))) 4 rfl (by decide) (st2 := [.int (f_X6_has (S 0 0) i1)]) rfl (fun H locs hw => ?_)
  refine lv_if_eq (tgt := 26) hx hb dX10_trimTop_11 (by decide) (fun hc11 => ?_) (fun hc11 => ?_)
  · rw [if_pos hc11] at h
    refine lv_iconst (v := -1) hx hb dX10_trimTop_26 (by decide) ?_
    obtain rfl := Option.some.inj h
    exact b_iret hQ hx hb hr hlk hw rfl dX10_trimTop_27
  · rw [if_neg hc11] at h
    refine lv_aload_n hx hb dX10_trimTop_14 rfl (lv_at hl 0 rfl) ?_
    refine b_get hx hb hT hK hown fl_X10_53 hw 0 0 rfl rfl (v := .ref (a 30)) rfl dX10_trimTop_15 ?_
    refine b_get hx hb hT hK hown fl_X10_154 hw 3 0 rfl rfl (v := .ref (a 32)) rfl dX10_trimTop_18 ?_
    refine lv_iload_n hx hb dX10_trimTop_21 rfl (lv_at hl 1 rfl) ?_
    obtain ⟨x1, ex1, hix1, h⟩ := g_rd_some h
    refine b_iald hx hb hK hw 3 2 rfl (f := tops) rfl hix1 ex1 dX10_trimTop_22 ?_
    refine lv_goto (tgt := 27) hx hb dX10_trimTop_23 (by decide) ?_
    obtain rfl := Option.some.inj h
    exact b_iret hQ hx hb hr hlk hw rfl dX10_trimTop_27
set_option maxRecDepth 100000 in
set_option maxHeartbeats 4000000 in
theorem c_X10_trimWidth (l : Launch) (D : va_G) (g : Nat → ClassId) (a : Nat → Nat) (rnd : Int64) (S : Nat → Nat → Int32) (lefts : (Nat → Int32)) (tops : (Nat → Int32)) (cwidths : (Nat → Int32)) (cheights : (Nat → Int32)) (originals : (Nat → Int32)) (orients : (Nat → Int32)) (i1 : Int32) (u : Int32) (h : f_X10_trimWidth S cwidths i1 = some u) : b_Ct l yX10_trimWidth cX10_trimWidth 2 (some .int) 1 21 D g [.ref (a 0), .int i1] [k_Atlas g a rnd, k_StO g a 4, k_Sheet g a 5 (S 0 0) (S 1) (S 2) (S 3) (S 4), k_Catalog g a 30 lefts tops cwidths cheights originals orients] [k_Atlas g a rnd, k_StO g a 4, k_Sheet g a 5 (S 0 0) (S 1) (S 2) (S 3) (S 4), k_Catalog g a 30 lefts tops cwidths cheights originals orients] (some (.int u)) := by
  refine b_start RX10 (by decide) rfl (Nat.le_of_ble_eq_true rfl) rfl ?_
  intro p e s m args below meth c A ls Q hQ hx hb hr hlk hml hown hT hK hA hw hl
  have hl : lv_has ls 2 [(0, .ref (a 0)), (1, .int i1)] := hl
  unfold f_X10_trimWidth at h
  refine lv_aload_n hx hb dX10_trimWidth_0 rfl (lv_at hl 0 rfl) ?_
  refine b_get hx hb hT hK hown fl_X10_47 hw 0 0 rfl rfl (v := .ref (a 4)) rfl dX10_trimWidth_1 ?_
  refine b_get hx hb hT hK hown fl_X10_85 hw 1 0 rfl rfl (v := .ref (a 5)) rfl dX10_trimWidth_4 ?_
  refine lv_iload_n hx hb dX10_trimWidth_7 rfl (lv_at hl 1 rfl) ?_
  refine b_callV hx hb hml hown hT hK hA hw mk_X10_120 (c_X6_has l D g a 5 (S 0 0) (S 1) (S 2) (S 3) (S 4) i1) [2] [0, 1, 3] rfl (by decide) 2 0 rfl rfl rfl rfl hl.1 [] rfl (Nat.le_of_ble_eq_true rfl) ⟨Nat.le_of_ble_eq_true rfl, Nat.le_of_ble_eq_true rfl⟩ ⟨Nat.zero_le _, Nat.zero_le _⟩ dX10_trimWidth_8 (wb' := [k_Atlas g a rnd, k_StO g a 4, k_Sheet g a 5 (S 0 0) (S 1) (S 2) (S 3) (S 4), k_Catalog g a 30 lefts tops cwidths cheights originals orients]) rfl (b_e1 rfl (b_e1 rfl (b_e1 rfl b_e0))) 4 rfl (by decide) (st2 := [.int (f_X6_has (S 0 0) i1)]) rfl (fun H locs hw => ?_)
  refine lv_if_eq (tgt := 26) hx hb dX10_trimWidth_11 (by decide) (fun hc11 => ?_) (fun hc11 => ?_)
  · rw [if_pos hc11] at h
    refine lv_iconst (v := -1) hx hb dX10_trimWidth_26 (by decide) ?_
    obtain rfl := Option.some.inj h
    exact b_iret hQ hx hb hr hlk hw rfl dX10_trimWidth_27
  · rw [if_neg hc11] at h
    refine lv_aload_n hx hb dX10_trimWidth_14 rfl (lv_at hl 0 rfl) ?_
    refine b_get hx hb hT hK hown fl_X10_53 hw 0 0 rfl rfl (v := .ref (a 30)) rfl dX10_trimWidth_15 ?_
    refine b_get hx hb hT hK hown fl_X10_157 hw 3 0 rfl rfl (v := .ref (a 33)) rfl dX10_trimWidth_18 ?_
    refine lv_iload_n hx hb dX10_trimWidth_21 rfl (lv_at hl 1 rfl) ?_
    obtain ⟨x1, ex1, hix1, h⟩ := g_rd_some h
    refine b_iald hx hb hK hw 3 3 rfl (f := cwidths) rfl hix1 ex1 dX10_trimWidth_22 ?_
    refine lv_goto (tgt := 27) hx hb dX10_trimWidth_23 (by decide) ?_
    obtain rfl := Option.some.inj h
    exact b_iret hQ hx hb hr hlk hw rfl dX10_trimWidth_27
set_option maxRecDepth 100000 in
set_option maxHeartbeats 4000000 in
theorem c_X10_trimHeight (l : Launch) (D : va_G) (g : Nat → ClassId) (a : Nat → Nat) (rnd : Int64) (S : Nat → Nat → Int32) (lefts : (Nat → Int32)) (tops : (Nat → Int32)) (cwidths : (Nat → Int32)) (cheights : (Nat → Int32)) (originals : (Nat → Int32)) (orients : (Nat → Int32)) (i1 : Int32) (u : Int32) (h : f_X10_trimHeight S cheights i1 = some u) : b_Ct l yX10_trimHeight cX10_trimHeight 2 (some .int) 1 21 D g [.ref (a 0), .int i1] [k_Atlas g a rnd, k_StO g a 4, k_Sheet g a 5 (S 0 0) (S 1) (S 2) (S 3) (S 4), k_Catalog g a 30 lefts tops cwidths cheights originals orients] [k_Atlas g a rnd, k_StO g a 4, k_Sheet g a 5 (S 0 0) (S 1) (S 2) (S 3) (S 4), k_Catalog g a 30 lefts tops cwidths cheights originals orients] (some (.int u)) := by
  refine b_start RX10 (by decide) rfl (Nat.le_of_ble_eq_true rfl) rfl ?_
  intro p e s m args below meth c A ls Q hQ hx hb hr hlk hml hown hT hK hA hw hl
  have hl : lv_has ls 2 [(0, .ref (a 0)), (1, .int i1)] := hl
  unfold f_X10_trimHeight at h
  refine lv_aload_n hx hb dX10_trimHeight_0 rfl (lv_at hl 0 rfl) ?_
  refine b_get hx hb hT hK hown fl_X10_47 hw 0 0 rfl rfl (v := .ref (a 4)) rfl dX10_trimHeight_1 ?_
  refine b_get hx hb hT hK hown fl_X10_85 hw 1 0 rfl rfl (v := .ref (a 5)) rfl dX10_trimHeight_4 ?_
  refine lv_iload_n hx hb dX10_trimHeight_7 rfl (lv_at hl 1 rfl) ?_
  refine b_callV hx hb hml hown hT hK hA hw mk_X10_120 (c_X6_has l D g a 5 (S 0 0) (S 1) (S 2) (S 3) (S 4) i1) [2] [0, 1, 3] rfl (by decide) 2 0 rfl rfl rfl rfl hl.1 [] rfl (Nat.le_of_ble_eq_true rfl) ⟨Nat.le_of_ble_eq_true rfl, Nat.le_of_ble_eq_true rfl⟩ ⟨Nat.zero_le _, Nat.zero_le _⟩ dX10_trimHeight_8 (wb' := [k_Atlas g a rnd, k_StO g a 4, k_Sheet g a 5 (S 0 0) (S 1) (S 2) (S 3) (S 4), k_Catalog g a 30 lefts tops cwidths cheights originals orients]) rfl (b_e1 rfl (b_e1 rfl (b_e1 rfl b_e0))) 4 rfl (by decide) (st2 := [.int (f_X6_has (S 0 0) i1)]) rfl (fun H locs hw => ?_)
  refine lv_if_eq (tgt := 26) hx hb dX10_trimHeight_11 (by decide) (fun hc11 => ?_) (fun hc11 => ?_)
  · rw [if_pos hc11] at h
    refine lv_iconst (v := -1) hx hb dX10_trimHeight_26 (by decide) ?_
    obtain rfl := Option.some.inj h
    exact b_iret hQ hx hb hr hlk hw rfl dX10_trimHeight_27
  · rw [if_neg hc11] at h
    refine lv_aload_n hx hb dX10_trimHeight_14 rfl (lv_at hl 0 rfl) ?_
    refine b_get hx hb hT hK hown fl_X10_53 hw 0 0 rfl rfl (v := .ref (a 30)) rfl dX10_trimHeight_15 ?_
    refine b_get hx hb hT hK hown fl_X10_158 hw 3 0 rfl rfl (v := .ref (a 34)) rfl dX10_trimHeight_18 ?_
    refine lv_iload_n hx hb dX10_trimHeight_21 rfl (lv_at hl 1 rfl) ?_
    obtain ⟨x1, ex1, hix1, h⟩ := g_rd_some h
    refine b_iald hx hb hK hw 3 4 rfl (f := cheights) rfl hix1 ex1 dX10_trimHeight_22 ?_
    refine lv_goto (tgt := 27) hx hb dX10_trimHeight_23 (by decide) ?_
    obtain rfl := Option.some.inj h
    exact b_iret hQ hx hb hr hlk hw rfl dX10_trimHeight_27
set_option maxRecDepth 100000 in
set_option maxHeartbeats 4000000 in
theorem c_X10_originalOf (l : Launch) (D : va_G) (g : Nat → ClassId) (a : Nat → Nat) (rnd : Int64) (S : Nat → Nat → Int32) (lefts : (Nat → Int32)) (tops : (Nat → Int32)) (cwidths : (Nat → Int32)) (cheights : (Nat → Int32)) (originals : (Nat → Int32)) (orients : (Nat → Int32)) (i1 : Int32) (u : Int32) (h : f_X10_originalOf S originals i1 = some u) : b_Ct l yX10_originalOf cX10_originalOf 2 (some .int) 1 21 D g [.ref (a 0), .int i1] [k_Atlas g a rnd, k_StO g a 4, k_Sheet g a 5 (S 0 0) (S 1) (S 2) (S 3) (S 4), k_Catalog g a 30 lefts tops cwidths cheights originals orients] [k_Atlas g a rnd, k_StO g a 4, k_Sheet g a 5 (S 0 0) (S 1) (S 2) (S 3) (S 4), k_Catalog g a 30 lefts tops cwidths cheights originals orients] (some (.int u)) := by
  refine b_start RX10 (by decide) rfl (Nat.le_of_ble_eq_true rfl) rfl ?_
  intro p e s m args below meth c A ls Q hQ hx hb hr hlk hml hown hT hK hA hw hl
  have hl : lv_has ls 2 [(0, .ref (a 0)), (1, .int i1)] := hl
  unfold f_X10_originalOf at h
  refine lv_aload_n hx hb dX10_originalOf_0 rfl (lv_at hl 0 rfl) ?_
  refine b_get hx hb hT hK hown fl_X10_47 hw 0 0 rfl rfl (v := .ref (a 4)) rfl dX10_originalOf_1 ?_
  refine b_get hx hb hT hK hown fl_X10_85 hw 1 0 rfl rfl (v := .ref (a 5)) rfl dX10_originalOf_4 ?_
  refine lv_iload_n hx hb dX10_originalOf_7 rfl (lv_at hl 1 rfl) ?_
  refine b_callV hx hb hml hown hT hK hA hw mk_X10_120 (c_X6_has l D g a 5 (S 0 0) (S 1) (S 2) (S 3) (S 4) i1) [2] [0, 1, 3] rfl (by decide) 2 0 rfl rfl rfl rfl hl.1 [] rfl (Nat.le_of_ble_eq_true rfl) ⟨Nat.le_of_ble_eq_true rfl, Nat.le_of_ble_eq_true rfl⟩ ⟨Nat.zero_le _, Nat.zero_le _⟩ dX10_originalOf_8 (wb' := [k_Atlas g a rnd, k_StO g a 4, k_Sheet g a 5 (S 0 0) (S 1) (S 2) (S 3) (S 4), k_Catalog g a 30 lefts tops cwidths cheights originals orients]) rfl (b_e1 rfl (b_e1 rfl (b_e1 rfl b_e0))) 4 rfl (by decide) (st2 := [.int (f_X6_has (S 0 0) i1)]) rfl (fun H locs hw => ?_)
  refine lv_if_eq (tgt := 26) hx hb dX10_originalOf_11 (by decide) (fun hc11 => ?_) (fun hc11 => ?_)
  · rw [if_pos hc11] at h
    refine lv_iconst (v := -1) hx hb dX10_originalOf_26 (by decide) ?_
    obtain rfl := Option.some.inj h
    exact b_iret hQ hx hb hr hlk hw rfl dX10_originalOf_27
  · rw [if_neg hc11] at h
    refine lv_aload_n hx hb dX10_originalOf_14 rfl (lv_at hl 0 rfl) ?_
    refine b_get hx hb hT hK hown fl_X10_53 hw 0 0 rfl rfl (v := .ref (a 30)) rfl dX10_originalOf_15 ?_
    refine b_get hx hb hT hK hown fl_X10_159 hw 3 0 rfl rfl (v := .ref (a 35)) rfl dX10_originalOf_18 ?_
    refine lv_iload_n hx hb dX10_originalOf_21 rfl (lv_at hl 1 rfl) ?_
    obtain ⟨x1, ex1, hix1, h⟩ := g_rd_some h
    refine b_iald hx hb hK hw 3 5 rfl (f := originals) rfl hix1 ex1 dX10_originalOf_22 ?_
    refine lv_goto (tgt := 27) hx hb dX10_originalOf_23 (by decide) ?_
    obtain rfl := Option.some.inj h
    exact b_iret hQ hx hb hr hlk hw rfl dX10_originalOf_27
set_option maxRecDepth 100000 in
set_option maxHeartbeats 4000000 in
theorem c_X10_orientationOf (l : Launch) (D : va_G) (g : Nat → ClassId) (a : Nat → Nat) (rnd : Int64) (S : Nat → Nat → Int32) (lefts : (Nat → Int32)) (tops : (Nat → Int32)) (cwidths : (Nat → Int32)) (cheights : (Nat → Int32)) (originals : (Nat → Int32)) (orients : (Nat → Int32)) (i1 : Int32) (u : Int32) (h : f_X10_orientationOf S orients i1 = some u) : b_Ct l yX10_orientationOf cX10_orientationOf 2 (some .int) 1 21 D g [.ref (a 0), .int i1] [k_Atlas g a rnd, k_StO g a 4, k_Sheet g a 5 (S 0 0) (S 1) (S 2) (S 3) (S 4), k_Catalog g a 30 lefts tops cwidths cheights originals orients] [k_Atlas g a rnd, k_StO g a 4, k_Sheet g a 5 (S 0 0) (S 1) (S 2) (S 3) (S 4), k_Catalog g a 30 lefts tops cwidths cheights originals orients] (some (.int u)) := by
  refine b_start RX10 (by decide) rfl (Nat.le_of_ble_eq_true rfl) rfl ?_
  intro p e s m args below meth c A ls Q hQ hx hb hr hlk hml hown hT hK hA hw hl
  have hl : lv_has ls 2 [(0, .ref (a 0)), (1, .int i1)] := hl
  unfold f_X10_orientationOf at h
  refine lv_aload_n hx hb dX10_orientationOf_0 rfl (lv_at hl 0 rfl) ?_
  refine b_get hx hb hT hK hown fl_X10_47 hw 0 0 rfl rfl (v := .ref (a 4)) rfl dX10_orientationOf_1 ?_
  refine b_get hx hb hT hK hown fl_X10_85 hw 1 0 rfl rfl (v := .ref (a 5)) rfl dX10_orientationOf_4 ?_
  refine lv_iload_n hx hb dX10_orientationOf_7 rfl (lv_at hl 1 rfl) ?_
  refine b_callV hx hb hml hown hT hK hA hw mk_X10_120 (c_X6_has l D g a 5 (S 0 0) (S 1) (S 2) (S 3) (S 4) i1) [2] [0, 1, 3] rfl (by decide) 2 0 rfl rfl rfl rfl hl.1 [] rfl (Nat.le_of_ble_eq_true rfl) ⟨Nat.le_of_ble_eq_true rfl, Nat.le_of_ble_eq_true rfl⟩ ⟨Nat.zero_le _, Nat.zero_le _⟩ dX10_orientationOf_8 (wb' := [k_Atlas g a rnd, k_StO g a 4, k_Sheet g a 5 (S 0 0) (S 1) (S 2) (S 3) (S 4), k_Catalog g a 30 lefts tops cwidths cheights originals orients]) rfl (b_e1 rfl (b_e1 rfl (b_e1 rfl b_e0))) 4 rfl (by decide) (st2 := [.int (f_X6_has (S 0 0) i1)]) rfl (fun H locs hw => ?_)
  refine lv_if_eq (tgt := 26) hx hb dX10_orientationOf_11 (by decide) (fun hc11 => ?_) (fun hc11 => ?_)
  · rw [if_pos hc11] at h
    refine lv_iconst (v := -1) hx hb dX10_orientationOf_26 (by decide) ?_
    obtain rfl := Option.some.inj h
    exact b_iret hQ hx hb hr hlk hw rfl dX10_orientationOf_27
  · rw [if_neg hc11] at h
    refine lv_aload_n hx hb dX10_orientationOf_14 rfl (lv_at hl 0 rfl) ?_
    refine b_get hx hb hT hK hown fl_X10_53 hw 0 0 rfl rfl (v := .ref (a 30)) rfl dX10_orientationOf_15 ?_
    refine b_get hx hb hT hK hown fl_X10_162 hw 3 0 rfl rfl (v := .ref (a 36)) rfl dX10_orientationOf_18 ?_
    refine lv_iload_n hx hb dX10_orientationOf_21 rfl (lv_at hl 1 rfl) ?_
    obtain ⟨x1, ex1, hix1, h⟩ := g_rd_some h
    refine b_iald hx hb hK hw 3 6 rfl (f := orients) rfl hix1 ex1 dX10_orientationOf_22 ?_
    refine lv_goto (tgt := 27) hx hb dX10_orientationOf_23 (by decide) ?_
    obtain rfl := Option.some.inj h
    exact b_iret hQ hx hb hr hlk hw rfl dX10_orientationOf_27
