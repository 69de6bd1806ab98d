set_option maxRecDepth 100000 in
set_option maxHeartbeats 4000000 in
theorem c_X2_takeBack (l : Launch) (D : va_G) (g : Nat → ClassId) (a : Nat → Nat) (o : Nat) (a1 : Nat → Nat) (o1 : Nat) (hLatest : Int32) (hCount : Int32) (H0 : Nat → Nat → Int32) (H1 : Nat → Nat → Int32) (H2 : Nat → Nat → Int32) (H3 : Nat → Nat → Int32) (H4 : Nat → Nat → Int32) (S2 : Nat → Nat → Int32) (u : Int32 × Int32 × (Nat → Nat → Int32)) (h : f_X2_takeBack hLatest hCount H0 H1 H2 H3 H4 S2 = some u) : b_Ct l yX2_takeBack cX2_takeBack 3 none 3 60 D g [.ref (a o), .ref (a1 o1)] [k_Hist g a o hLatest hCount, k_StO g a (o+2), k_Sheet g a (o+3) (H0 0 0) (H0 1) (H0 2) (H0 3) (H0 4), k_Settings g a (o+8) (H0 5 0) (H0 5 1) (H0 5 2) (H0 5 3) (H0 5 4) (H0 5 5) (H0 5 6) (H0 5 7) (H0 5 8) (H0 5 9) (H0 5 10) (H0 5 11), k_Places g a (o+9) (H0 6 0) (H0 7) (H0 8) (H0 9) (H0 10) (H0 11), k_StO g a (o+15), k_Sheet g a (o+16) (H1 0 0) (H1 1) (H1 2) (H1 3) (H1 4), k_Settings g a (o+21) (H1 5 0) (H1 5 1) (H1 5 2) (H1 5 3) (H1 5 4) (H1 5 5) (H1 5 6) (H1 5 7) (H1 5 8) (H1 5 9) (H1 5 10) (H1 5 11), k_Places g a (o+22) (H1 6 0) (H1 7) (H1 8) (H1 9) (H1 10) (H1 11), k_StO g a (o+28), k_Sheet g a (o+29) (H2 0 0) (H2 1) (H2 2) (H2 3) (H2 4), k_Settings g a (o+34) (H2 5 0) (H2 5 1) (H2 5 2) (H2 5 3) (H2 5 4) (H2 5 5) (H2 5 6) (H2 5 7) (H2 5 8) (H2 5 9) (H2 5 10) (H2 5 11), k_Places g a (o+35) (H2 6 0) (H2 7) (H2 8) (H2 9) (H2 10) (H2 11), k_StO g a (o+41), k_Sheet g a (o+42) (H3 0 0) (H3 1) (H3 2) (H3 3) (H3 4), k_Settings g a (o+47) (H3 5 0) (H3 5 1) (H3 5 2) (H3 5 3) (H3 5 4) (H3 5 5) (H3 5 6) (H3 5 7) (H3 5 8) (H3 5 9) (H3 5 10) (H3 5 11), k_Places g a (o+48) (H3 6 0) (H3 7) (H3 8) (H3 9) (H3 10) (H3 11), k_StO g a (o+54), k_Sheet g a (o+55) (H4 0 0) (H4 1) (H4 2) (H4 3) (H4 4), k_Settings g a (o+60) (H4 5 0) (H4 5 1) (H4 5 2) (H4 5 3) (H4 5 4) (H4 5 5) (H4 5 6) (H4 5 7) (H4 5 8) (H4 5 9) (H4 5 10) (H4 5 11), k_Places g a (o+61) (H4 6 0) (H4 7) (H4 8) (H4 9) (H4 10) (H4 11), k_StO g a1 o1, k_Sheet g a1 (o1+1) (S2 0 0) (S2 1) (S2 2) (S2 3) (S2 4), k_Settings g a1 (o1+6) (S2 5 0) (S2 5 1) (S2 5 2) (S2 5 3) (S2 5 4) (S2 5 5) (S2 5 6) (S2 5 7) (S2 5 8) (S2 5 9) (S2 5 10) (S2 5 11), k_Places g a1 (o1+7) (S2 6 0) (S2 7) (S2 8) (S2 9) (S2 10) (S2 11)] [k_Hist g a o u.1 u.2.1, k_StO g a (o+2), k_Sheet g a (o+3) (H0 0 0) (H0 1) (H0 2) (H0 3) (H0 4), k_Settings g a (o+8) (H0 5 0) (H0 5 1) (H0 5 2) (H0 5 3) (H0 5 4) (H0 5 5) (H0 5 6) (H0 5 7) (H0 5 8) (H0 5 9) (H0 5 10) (H0 5 11), k_Places g a (o+9) (H0 6 0) (H0 7) (H0 8) (H0 9) (H0 10) (H0 11), k_StO g a (o+15), k_Sheet g a (o+16) (H1 0 0) (H1 1) (H1 2) (H1 3) (H1 4), k_Settings g a (o+21) (H1 5 0) (H1 5 1) (H1 5 2) (H1 5 3) (H1 5 4) (H1 5 5) (H1 5 6) (H1 5 7) (H1 5 8) (H1 5 9) (H1 5 10) (H1 5 11), k_Places g a (o+22) (H1 6 0) (H1 7) (H1 8) (H1 9) (H1 10) (H1 11), k_StO g a (o+28), k_Sheet g a (o+29) (H2 0 0) (H2 1) (H2 2) (H2 3) (H2 4), k_Settings g a (o+34) (H2 5 0) (H2 5 1) (H2 5 2) (H2 5 3) (H2 5 4) (H2 5 5) (H2 5 6) (H2 5 7) (H2 5 8) (H2 5 9) (H2 5 10) (H2 5 11), k_Places g a (o+35) (H2 6 0) (H2 7) (H2 8) (H2 9) (H2 10) (H2 11), k_StO g a (o+41), k_Sheet g a (o+42) (H3 0 0) (H3 1) (H3 2) (H3 3) (H3 4), k_Settings g a (o+47) (H3 5 0) (H3 5 1) (H3 5 2) (H3 5 3) (H3 5 4) (H3 5 5) (H3 5 6) (H3 5 7) (H3 5 8) (H3 5 9) (H3 5 10) (H3 5 11), k_Places g a (o+48) (H3 6 0) (H3 7) (H3 8) (H3 9) (H3 10) (H3 11), k_StO g a (o+54), k_Sheet g a (o+55) (H4 0 0) (H4 1) (H4 2) (H4 3) (H4 4), k_Settings g a (o+60) (H4 5 0) (H4 5 1) (H4 5 2) (H4 5 3) (H4 5 4) (H4 5 5) (H4 5 6) (H4 5 7) (H4 5 8) (H4 5 9) (H4 5 10) (H4 5 11), k_Places g a (o+61) (H4 6 0) (H4 7) (H4 8) (H4 9) (H4 10) (H4 11), k_StO g a1 o1, k_Sheet g a1 (o1+1) (u.2.2 0 0) (u.2.2 1) (u.2.2 2) (u.2.2 3) (u.2.2 4), k_Settings g a1 (o1+6) (u.2.2 5 0) (u.2.2 5 1) (u.2.2 5 2) (u.2.2 5 3) (u.2.2 5 4) (u.2.2 5 5) (u.2.2 5 6) (u.2.2 5 7) (u.2.2 5 8) (u.2.2 5 9) (u.2.2 5 10) (u.2.2 5 11), k_Places g a1 (o1+7) (u.2.2 6 0) (u.2.2 7) (u.2.2 8) (u.2.2 9) (u.2.2 10) (u.2.2 11)] none := by
  refine b_start RX2 (by decide) rfl (Nat.le_of_ble_eq_true rfl) rfl ?_
  intro p e s m args below meth c A ls Q hQ hx hb hr hlk hml hown hT hK hA hw hl
  have hl : lv_has ls 3 [(0, .ref (a o)), (1, .ref (a1 o1))] := hl
  unfold f_X2_takeBack at h
  refine lv_aload_n hx hb dX2_takeBack_0 rfl (lv_at hl 0 rfl) ?_
  refine b_get hx hb hT hK hown fl_X2_11 hw 0 0 rfl rfl (v := .ref (a (o+1))) rfl dX2_takeBack_1 ?_
  refine lv_aload_n hx hb dX2_takeBack_4 rfl (lv_at hl 0 rfl) ?_
  refine b_get hx hb hT hK hown fl_X2_18 hw 0 0 rfl rfl (v := .int hLatest) rfl dX2_takeBack_5 ?_
  by_cases hc8_0 : hLatest = 0
  · rw [if_pos hc8_0] at h
    refine b_aald hx hb hK hw 0 1 rfl rfl (x := (a (o+2))) (by rw [hc8_0]; exact (show ¬ ((0 : Int32) < 0 ∨ 5 ≤ (0 : Int32).toNatClampNeg) by decide)) (by rw [hc8_0, show (0 : Int32).toNatClampNeg = 0 by decide]; rfl) dX2_takeBack_8 ?_
    refine lv_astore_n (lv' := [(2, .ref (a (o+2))), (0, .ref (a o)), (1, .ref (a1 o1))]) hx hb dX2_takeBack_9 rfl hl (by decide) rfl (fun ls hl => ?_)
    refine lv_aload_n hx hb dX2_takeBack_10 rfl (lv_at hl 1 rfl) ?_
    refine b_get hx hb hT hK hown fl_X2_26 hw 0 0 rfl rfl (v := .int hCount) rfl dX2_takeBack_11 ?_
    refine lv_if_le (tgt := 50) hx hb dX2_takeBack_14 (by decide) (fun hc14 => ?_) (fun hc14 => ?_)
    · rw [if_pos hc14] at h
      obtain rfl := Option.some.inj h
      exact b_vret hQ hx hb hr hlk hw rfl dX2_takeBack_50
    · rw [if_neg hc14] at h
      refine lv_aload_n hx hb dX2_takeBack_17 rfl (lv_at hl 0 rfl) ?_
      refine lv_ifnull hx hb dX2_takeBack_18 ?_
      refine lv_aload_n hx hb dX2_takeBack_21 rfl (lv_at hl 2 rfl) ?_
      refine lv_aload_n hx hb dX2_takeBack_22 rfl (lv_at hl 0 rfl) ?_
      obtain ⟨r1, er1, h⟩ := g_cl_some h
      refine b_callV hx hb hml hown hT hK hA hw mk_X2_22 (c_X8_copyFrom l D g a1 o1 a (o+2) S2 H0 r1 er1) [21, 22, 23, 24, 1, 2, 3, 4] [0, 5, 6, 7, 8, 9, 10, 11, 12, 13, 14, 15, 16, 17, 18, 19, 20] rfl (by decide) 21 0 rfl rfl rfl rfl hl.1 [] rfl (Nat.le_of_ble_eq_true rfl) ⟨Nat.le_of_ble_eq_true rfl, Nat.le_of_ble_eq_true rfl⟩ ⟨Nat.zero_le _, Nat.zero_le _⟩ dX2_takeBack_23 (wb' := [k_Hist g a o hLatest hCount, k_StO g a (o+2), k_Sheet g a (o+3) (H0 0 0) (H0 1) (H0 2) (H0 3) (H0 4), k_Settings g a (o+8) (H0 5 0) (H0 5 1) (H0 5 2) (H0 5 3) (H0 5 4) (H0 5 5) (H0 5 6) (H0 5 7) (H0 5 8) (H0 5 9) (H0 5 10) (H0 5 11), k_Places g a (o+9) (H0 6 0) (H0 7) (H0 8) (H0 9) (H0 10) (H0 11), k_StO g a (o+15), k_Sheet g a (o+16) (H1 0 0) (H1 1) (H1 2) (H1 3) (H1 4), k_Settings g a (o+21) (H1 5 0) (H1 5 1) (H1 5 2) (H1 5 3) (H1 5 4) (H1 5 5) (H1 5 6) (H1 5 7) (H1 5 8) (H1 5 9) (H1 5 10) (H1 5 11), k_Places g a (o+22) (H1 6 0) (H1 7) (H1 8) (H1 9) (H1 10) (H1 11), k_StO g a (o+28), k_Sheet g a (o+29) (H2 0 0) (H2 1) (H2 2) (H2 3) (H2 4), k_Settings g a (o+34) (H2 5 0) (H2 5 1) (H2 5 2) (H2 5 3) (H2 5 4) (H2 5 5) (H2 5 6) (H2 5 7) (H2 5 8) (H2 5 9) (H2 5 10) (H2 5 11), k_Places g a (o+35) (H2 6 0) (H2 7) (H2 8) (H2 9) (H2 10) (H2 11), k_StO g a (o+41), k_Sheet g a (o+42) (H3 0 0) (H3 1) (H3 2) (H3 3) (H3 4), k_Settings g a (o+47) (H3 5 0) (H3 5 1) (H3 5 2) (H3 5 3) (H3 5 4) (H3 5 5) (H3 5 6) (H3 5 7) (H3 5 8) (H3 5 9) (H3 5 10) (H3 5 11), k_Places g a (o+48) (H3 6 0) (H3 7) (H3 8) (H3 9) (H3 10) (H3 11), k_StO g a (o+54), k_Sheet g a (o+55) (H4 0 0) (H4 1) (H4 2) (H4 3) (H4 4), k_Settings g a (o+60) (H4 5 0) (H4 5 1) (H4 5 2) (H4 5 3) (H4 5 4) (H4 5 5) (H4 5 6) (H4 5 7) (H4 5 8) (H4 5 9) (H4 5 10) (H4 5 11), k_Places g a (o+61) (H4 6 0) (H4 7) (H4 8) (H4 9) (H4 10) (H4 11), k_StO g a1 o1, k_Sheet g a1 (o1+1) (r1 0 0) (r1 1) (r1 2) (r1 3) (r1 4), k_Settings g a1 (o1+6) (r1 5 0) (r1 5 1) (r1 5 2) (r1 5 3) (r1 5 4) (r1 5 5) (r1 5 6) (r1 5 7) (r1 5 8) (r1 5 9) (r1 5 10) (r1 5 11), k_Places g a1 (o1+7) (r1 6 0) (r1 7) (r1 8) (r1 9) (r1 10) (r1 11)]) rfl (b_e1 rfl (b_e1 rfl (b_e1 rfl (b_e1 rfl (b_e1 rfl (b_e1 rfl (b_e1 rfl (b_e1 rfl (b_e1 rfl (b_e1 rfl (b_e1 rfl (b_e1 rfl (b_e1 rfl (b_e1 rfl (b_e1 rfl (b_e1 rfl (b_e1 rfl b_e0))))))))))))))))) 25 rfl (by decide) (st2 := []) rfl (fun H locs hw => ?_)
      refine lv_aload_n hx hb dX2_takeBack_26 rfl (lv_at hl 1 rfl) ?_
      refine lv_dup hx hb dX2_takeBack_27 rfl ?_
      refine b_get hx hb hT hK hown fl_X2_26 hw 0 0 rfl rfl (v := .int hCount) rfl dX2_takeBack_28 ?_
      refine lv_iconst (v := 1) hx hb dX2_takeBack_31 (by decide) ?_
      refine lv_isub hx hb dX2_takeBack_32 ?_
      obtain ⟨x2, ex2, h⟩ := g_bd_nm h
      refine g_topi ex2 ?_
      refine b_putf hx hb hT hK hown fl_X2_26 ft_X2 hw 0 0 rfl rfl rfl rfl rfl (Nat.le_of_ble_eq_true rfl) rfl (wb' := [k_Hist g a o hLatest x2, k_StO g a (o+2), k_Sheet g a (o+3) (H0 0 0) (H0 1) (H0 2) (H0 3) (H0 4), k_Settings g a (o+8) (H0 5 0) (H0 5 1) (H0 5 2) (H0 5 3) (H0 5 4) (H0 5 5) (H0 5 6) (H0 5 7) (H0 5 8) (H0 5 9) (H0 5 10) (H0 5 11), k_Places g a (o+9) (H0 6 0) (H0 7) (H0 8) (H0 9) (H0 10) (H0 11), k_StO g a (o+15), k_Sheet g a (o+16) (H1 0 0) (H1 1) (H1 2) (H1 3) (H1 4), k_Settings g a (o+21) (H1 5 0) (H1 5 1) (H1 5 2) (H1 5 3) (H1 5 4) (H1 5 5) (H1 5 6) (H1 5 7) (H1 5 8) (H1 5 9) (H1 5 10) (H1 5 11), k_Places g a (o+22) (H1 6 0) (H1 7) (H1 8) (H1 9) (H1 10) (H1 11), k_StO g a (o+28), k_Sheet g a (o+29) (H2 0 0) (H2 1) (H2 2) (H2 3) (H2 4), k_Settings g a (o+34) (H2 5 0) (H2 5 1) (H2 5 2) (H2 5 3) (H2 5 4) (H2 5 5) (H2 5 6) (H2 5 7) (H2 5 8) (H2 5 9) (H2 5 10) (H2 5 11), k_Places g a (o+35) (H2 6 0) (H2 7) (H2 8) (H2 9) (H2 10) (H2 11), k_StO g a (o+41), k_Sheet g a (o+42) (H3 0 0) (H3 1) (H3 2) (H3 3) (H3 4), k_Settings g a (o+47) (H3 5 0) (H3 5 1) (H3 5 2) (H3 5 3) (H3 5 4) (H3 5 5) (H3 5 6) (H3 5 7) (H3 5 8) (H3 5 9) (H3 5 10) (H3 5 11), k_Places g a (o+48) (H3 6 0) (H3 7) (H3 8) (H3 9) (H3 10) (H3 11), k_StO g a (o+54), k_Sheet g a (o+55) (H4 0 0) (H4 1) (H4 2) (H4 3) (H4 4), k_Settings g a (o+60) (H4 5 0) (H4 5 1) (H4 5 2) (H4 5 3) (H4 5 4) (H4 5 5) (H4 5 6) (H4 5 7) (H4 5 8) (H4 5 9) (H4 5 10) (H4 5 11), k_Places g a (o+61) (H4 6 0) (H4 7) (H4 8) (H4 9) (H4 10) (H4 11), k_StO g a1 o1, k_Sheet g a1 (o1+1) (r1 0 0) (r1 1) (r1 2) (r1 3) (r1 4), k_Settings g a1 (o1+6) (r1 5 0) (r1 5 1) (r1 5 2) (r1 5 3) (r1 5 4) (r1 5 5) (r1 5 6) (r1 5 7) (r1 5 8) (r1 5 9) (r1 5 10) (r1 5 11), k_Places g a1 (o1+7) (r1 6 0) (r1 7) (r1 8) (r1 9) (r1 10) (r1 11)]) rfl dX2_takeBack_33 (fun H locs hw => ?_)
      refine lv_aload_n hx hb dX2_takeBack_36 rfl (lv_at hl 1 rfl) ?_
      refine lv_aload_n hx hb dX2_takeBack_37 rfl (lv_at hl 1 rfl) ?_
      refine b_get hx hb hT hK hown fl_X2_18 hw 0 0 rfl rfl (v := .int hLatest) rfl dX2_takeBack_38 ?_
      refine lv_iconst (v := 5) hx hb dX2_takeBack_41 (by decide) ?_
      refine lv_iadd hx hb dX2_takeBack_42 ?_
      refine lv_iconst (v := 1) hx hb dX2_takeBack_43 (by decide) ?_
      refine lv_isub hx hb dX2_takeBack_44 ?_
      refine lv_iconst (v := 5) hx hb dX2_takeBack_45 (by decide) ?_
      refine g_irem hx hb dX2_takeBack_46 (by decide) ?_
      obtain ⟨x3, ex3, h⟩ := g_bd_nm h
      refine g_topi ex3 ?_
      refine b_putf hx hb hT hK hown fl_X2_18 ft_X2 hw 0 0 rfl rfl rfl rfl rfl (Nat.le_of_ble_eq_true rfl) rfl (wb' := [k_Hist g a o x3 x2, k_StO g a (o+2), k_Sheet g a (o+3) (H0 0 0) (H0 1) (H0 2) (H0 3) (H0 4), k_Settings g a (o+8) (H0 5 0) (H0 5 1) (H0 5 2) (H0 5 3) (H0 5 4) (H0 5 5) (H0 5 6) (H0 5 7) (H0 5 8) (H0 5 9) (H0 5 10) (H0 5 11), k_Places g a (o+9) (H0 6 0) (H0 7) (H0 8) (H0 9) (H0 10) (H0 11), k_StO g a (o+15), k_Sheet g a (o+16) (H1 0 0) (H1 1) (H1 2) (H1 3) (H1 4), k_Settings g a (o+21) (H1 5 0) (H1 5 1) (H1 5 2) (H1 5 3) (H1 5 4) (H1 5 5) (H1 5 6) (H1 5 7) (H1 5 8) (H1 5 9) (H1 5 10) (H1 5 11), k_Places g a (o+22) (H1 6 0) (H1 7) (H1 8) (H1 9) (H1 10) (H1 11), k_StO g a (o+28), k_Sheet g a (o+29) (H2 0 0) (H2 1) (H2 2) (H2 3) (H2 4), k_Settings g a (o+34) (H2 5 0) (H2 5 1) (H2 5 2) (H2 5 3) (H2 5 4) (H2 5 5) (H2 5 6) (H2 5 7) (H2 5 8) (H2 5 9) (H2 5 10) (H2 5 11), k_Places g a (o+35) (H2 6 0) (H2 7) (H2 8) (H2 9) (H2 10) (H2 11), k_StO g a (o+41), k_Sheet g a (o+42) (H3 0 0) (H3 1) (H3 2) (H3 3) (H3 4), k_Settings g a (o+47) (H3 5 0) (H3 5 1) (H3 5 2) (H3 5 3) (H3 5 4) (H3 5 5) (H3 5 6) (H3 5 7) (H3 5 8) (H3 5 9) (H3 5 10) (H3 5 11), k_Places g a (o+48) (H3 6 0) (H3 7) (H3 8) (H3 9) (H3 10) (H3 11), k_StO g a (o+54), k_Sheet g a (o+55) (H4 0 0) (H4 1) (H4 2) (H4 3) (H4 4), k_Settings g a (o+60) (H4 5 0) (H4 5 1) (H4 5 2) (H4 5 3) (H4 5 4) (H4 5 5) (H4 5 6) (H4 5 7) (H4 5 8) (H4 5 9) (H4 5 10) (H4 5 11), k_Places g a (o+61) (H4 6 0) (H4 7) (H4 8) (H4 9) (H4 10) (H4 11), k_StO g a1 o1, k_Sheet g a1 (o1+1) (r1 0 0) (r1 1) (r1 2) (r1 3) (r1 4), k_Settings g a1 (o1+6) (r1 5 0) (r1 5 1) (r1 5 2) (r1 5 3) (r1 5 4) (r1 5 5) (r1 5 6) (r1 5 7) (r1 5 8) (r1 5 9) (r1 5 10) (r1 5 11), k_Places g a1 (o1+7) (r1 6 0) (r1 7) (r1 8) (r1 9) (r1 10) (r1 11)]) rfl dX2_takeBack_47 (fun H locs hw => ?_)
      obtain rfl := Option.some.inj h
      exact b_vret hQ hx hb hr hlk hw rfl dX2_takeBack_50
  · rw [if_neg hc8_0] at h
    by_cases hc8_1 : hLatest = 1
    · rw [if_pos hc8_1] at h
      refine b_aald hx hb hK hw 0 1 rfl rfl (x := (a (o+15))) (by rw [hc8_1]; exact (show ¬ ((1 : Int32) < 0 ∨ 5 ≤ (1 : Int32).toNatClampNeg) by decide)) (by rw [hc8_1, show (1 : Int32).toNatClampNeg = 1 by decide]; rfl) dX2_takeBack_8 ?_
      refine lv_astore_n (lv' := [(2, .ref (a (o+15))), (0, .ref (a o)), (1, .ref (a1 o1))]) hx hb dX2_takeBack_9 rfl hl (by decide) rfl (fun ls hl => ?_)
      refine lv_aload_n hx hb dX2_takeBack_10 rfl (lv_at hl 1 rfl) ?_
      refine b_get hx hb hT hK hown fl_X2_26 hw 0 0 rfl rfl (v := .int hCount) rfl dX2_takeBack_11 ?_
      refine lv_if_le (tgt := 50) hx hb dX2_takeBack_14 (by decide) (fun hc14 => ?_) (fun hc14 => ?_)
      · rw [if_pos hc14] at h
        obtain rfl := Option.some.inj h
        exact b_vret hQ hx hb hr hlk hw rfl dX2_takeBack_50
      · rw [if_neg hc14] at h
        refine lv_aload_n hx hb dX2_takeBack_17 rfl (lv_at hl 0 rfl) ?_
        refine lv_ifnull hx hb dX2_takeBack_18 ?_
        refine lv_aload_n hx hb dX2_takeBack_21 rfl (lv_at hl 2 rfl) ?_
        refine lv_aload_n hx hb dX2_takeBack_22 rfl (lv_at hl 0 rfl) ?_
        obtain ⟨r4, er4, h⟩ := g_cl_some h
        refine b_callV hx hb hml hown hT hK hA hw mk_X2_22 (c_X8_copyFrom l D g a1 o1 a (o+15) S2 H1 r4 er4) [21, 22, 23, 24, 5, 6, 7, 8] [0, 1, 2, 3, 4, 9, 10, 11, 12, 13, 14, 15, 16, 17, 18, 19, 20] rfl (by decide) 21 0 rfl rfl rfl rfl hl.1 [] rfl (Nat.le_of_ble_eq_true rfl) ⟨Nat.le_of_ble_eq_true rfl, Nat.le_of_ble_eq_true rfl⟩ ⟨Nat.zero_le _, Nat.zero_le _⟩ dX2_takeBack_23 (wb' := [k_Hist g a o hLatest hCount, k_StO g a (o+2), k_Sheet g a (o+3) (H0 0 0) (H0 1) (H0 2) (H0 3) (H0 4), k_Settings g a (o+8) (H0 5 0) (H0 5 1) (H0 5 2) (H0 5 3) (H0 5 4) (H0 5 5) (H0 5 6) (H0 5 7) (H0 5 8) (H0 5 9) (H0 5 10) (H0 5 11), k_Places g a (o+9) (H0 6 0) (H0 7) (H0 8) (H0 9) (H0 10) (H0 11), k_StO g a (o+15), k_Sheet g a (o+16) (H1 0 0) (H1 1) (H1 2) (H1 3) (H1 4), k_Settings g a (o+21) (H1 5 0) (H1 5 1) (H1 5 2) (H1 5 3) (H1 5 4) (H1 5 5) (H1 5 6) (H1 5 7) (H1 5 8) (H1 5 9) (H1 5 10) (H1 5 11), k_Places g a (o+22) (H1 6 0) (H1 7) (H1 8) (H1 9) (H1 10) (H1 11), k_StO g a (o+28), k_Sheet g a (o+29) (H2 0 0) (H2 1) (H2 2) (H2 3) (H2 4), k_Settings g a (o+34) (H2 5 0) (H2 5 1) (H2 5 2) (H2 5 3) (H2 5 4) (H2 5 5) (H2 5 6) (H2 5 7) (H2 5 8) (H2 5 9) (H2 5 10) (H2 5 11), k_Places g a (o+35) (H2 6 0) (H2 7) (H2 8) (H2 9) (H2 10) (H2 11), k_StO g a (o+41), k_Sheet g a (o+42) (H3 0 0) (H3 1) (H3 2) (H3 3) (H3 4), k_Settings g a (o+47) (H3 5 0) (H3 5 1) (H3 5 2) (H3 5 3) (H3 5 4) (H3 5 5) (H3 5 6) (H3 5 7) (H3 5 8) (H3 5 9) (H3 5 10) (H3 5 11), k_Places g a (o+48) (H3 6 0) (H3 7) (H3 8) (H3 9) (H3 10) (H3 11), k_StO g a (o+54), k_Sheet g a (o+55) (H4 0 0) (H4 1) (H4 2) (H4 3) (H4 4), k_Settings g a (o+60) (H4 5 0) (H4 5 1) (H4 5 2) (H4 5 3) (H4 5 4) (H4 5 5) (H4 5 6) (H4 5 7) (H4 5 8) (H4 5 9) (H4 5 10) (H4 5 11), k_Places g a (o+61) (H4 6 0) (H4 7) (H4 8) (H4 9) (H4 10) (H4 11), k_StO g a1 o1, k_Sheet g a1 (o1+1) (r4 0 0) (r4 1) (r4 2) (r4 3) (r4 4), k_Settings g a1 (o1+6) (r4 5 0) (r4 5 1) (r4 5 2) (r4 5 3) (r4 5 4) (r4 5 5) (r4 5 6) (r4 5 7) (r4 5 8) (r4 5 9) (r4 5 10) (r4 5 11), k_Places g a1 (o1+7) (r4 6 0) (r4 7) (r4 8) (r4 9) (r4 10) (r4 11)]) rfl (b_e1 rfl (b_e1 rfl (b_e1 rfl (b_e1 rfl (b_e1 rfl (b_e1 rfl (b_e1 rfl (b_e1 rfl (b_e1 rfl (b_e1 rfl (b_e1 rfl (b_e1 rfl (b_e1 rfl (b_e1 rfl (b_e1 rfl (b_e1 rfl (b_e1 rfl b_e0))))))))))))))))) 25 rfl (by decide) (st2 := []) rfl (fun H locs hw => ?_)
        refine lv_aload_n hx hb dX2_takeBack_26 rfl (lv_at hl 1 rfl) ?_
        refine lv_dup hx hb dX2_takeBack_27 rfl ?_
        refine b_get hx hb hT hK hown fl_X2_26 hw 0 0 rfl rfl (v := .int hCount) rfl dX2_takeBack_28 ?_
        refine lv_iconst (v := 1) hx hb dX2_takeBack_31 (by decide) ?_
        refine lv_isub hx hb dX2_takeBack_32 ?_
        obtain ⟨x5, ex5, h⟩ := g_bd_nm h
        refine g_topi ex5 ?_
        refine b_putf hx hb hT hK hown fl_X2_26 ft_X2 hw 0 0 rfl rfl rfl rfl rfl (Nat.le_of_ble_eq_true rfl) rfl (wb' := [k_Hist g a o hLatest x5, k_StO g a (o+2), k_Sheet g a (o+3) (H0 0 0) (H0 1) (H0 2) (H0 3) (H0 4), k_Settings g a (o+8) (H0 5 0) (H0 5 1) (H0 5 2) (H0 5 3) (H0 5 4) (H0 5 5) (H0 5 6) (H0 5 7) (H0 5 8) (H0 5 9) (H0 5 10) (H0 5 11), k_Places g a (o+9) (H0 6 0) (H0 7) (H0 8) (H0 9) (H0 10) (H0 11), k_StO g a (o+15), k_Sheet g a (o+16) (H1 0 0) (H1 1) (H1 2) (H1 3) (H1 4), k_Settings g a (o+21) (H1 5 0) (H1 5 1) (H1 5 2) (H1 5 3) (H1 5 4) (H1 5 5) (H1 5 6) (H1 5 7) (H1 5 8) (H1 5 9) (H1 5 10) (H1 5 11), k_Places g a (o+22) (H1 6 0) (H1 7) (H1 8) (H1 9) (H1 10) (H1 11), k_StO g a (o+28), k_Sheet g a (o+29) (H2 0 0) (H2 1) (H2 2) (H2 3) (H2 4), k_Settings g a (o+34) (H2 5 0) (H2 5 1) (H2 5 2) (H2 5 3) (H2 5 4) (H2 5 5) (H2 5 6) (H2 5 7) (H2 5 8) (H2 5 9) (H2 5 10) (H2 5 11), k_Places g a (o+35) (H2 6 0) (H2 7) (H2 8) (H2 9) (H2 10) (H2 11), k_StO g a (o+41), k_Sheet g a (o+42) (H3 0 0) (H3 1) (H3 2) (H3 3) (H3 4), k_Settings g a (o+47) (H3 5 0) (H3 5 1) (H3 5 2) (H3 5 3) (H3 5 4) (H3 5 5) (H3 5 6) (H3 5 7) (H3 5 8) (H3 5 9) (H3 5 10) (H3 5 11), k_Places g a (o+48) (H3 6 0) (H3 7) (H3 8) (H3 9) (H3 10) (H3 11), k_StO g a (o+54), k_Sheet g a (o+55) (H4 0 0) (H4 1) (H4 2) (H4 3) (H4 4), k_Settings g a (o+60) (H4 5 0) (H4 5 1) (H4 5 2) (H4 5 3) (H4 5 4) (H4 5 5) (H4 5 6) (H4 5 7) (H4 5 8) (H4 5 9) (H4 5 10) (H4 5 11), k_Places g a (o+61) (H4 6 0) (H4 7) (H4 8) (H4 9) (H4 10) (H4 11), k_StO g a1 o1, k_Sheet g a1 (o1+1) (r4 0 0) (r4 1) (r4 2) (r4 3) (r4 4), k_Settings g a1 (o1+6) (r4 5 0) (r4 5 1) (r4 5 2) (r4 5 3) (r4 5 4) (r4 5 5) (r4 5 6) (r4 5 7) (r4 5 8) (r4 5 9) (r4 5 10) (r4 5 11), k_Places g a1 (o1+7) (r4 6 0) (r4 7) (r4 8) (r4 9) (r4 10) (r4 11)]) rfl dX2_takeBack_33 (fun H locs hw => ?_)
        refine lv_aload_n hx hb dX2_takeBack_36 rfl (lv_at hl 1 rfl) ?_
        refine lv_aload_n hx hb dX2_takeBack_37 rfl (lv_at hl 1 rfl) ?_
        refine b_get hx hb hT hK hown fl_X2_18 hw 0 0 rfl rfl (v := .int hLatest) rfl dX2_takeBack_38 ?_
        refine lv_iconst (v := 5) hx hb dX2_takeBack_41 (by decide) ?_
        refine lv_iadd hx hb dX2_takeBack_42 ?_
        refine lv_iconst (v := 1) hx hb dX2_takeBack_43 (by decide) ?_
        refine lv_isub hx hb dX2_takeBack_44 ?_
        refine lv_iconst (v := 5) hx hb dX2_takeBack_45 (by decide) ?_
        refine g_irem hx hb dX2_takeBack_46 (by decide) ?_
        obtain ⟨x6, ex6, h⟩ := g_bd_nm h
        refine g_topi ex6 ?_
        refine b_putf hx hb hT hK hown fl_X2_18 ft_X2 hw 0 0 rfl rfl rfl rfl rfl (Nat.le_of_ble_eq_true rfl) rfl (wb' := [k_Hist g a o x6 x5, k_StO g a (o+2), k_Sheet g a (o+3) (H0 0 0) (H0 1) (H0 2) (H0 3) (H0 4), k_Settings g a (o+8) (H0 5 0) (H0 5 1) (H0 5 2) (H0 5 3) (H0 5 4) (H0 5 5) (H0 5 6) (H0 5 7) (H0 5 8) (H0 5 9) (H0 5 10) (H0 5 11), k_Places g a (o+9) (H0 6 0) (H0 7) (H0 8) (H0 9) (H0 10) (H0 11), k_StO g a (o+15), k_Sheet g a (o+16) (H1 0 0) (H1 1) (H1 2) (H1 3) (H1 4), k_Settings g a (o+21) (H1 5 0) (H1 5 1) (H1 5 2) (H1 5 3) (H1 5 4) (H1 5 5) (H1 5 6) (H1 5 7) (H1 5 8) (H1 5 9) (H1 5 10) (H1 5 11), k_Places g a (o+22) (H1 6 0) (H1 7) (H1 8) (H1 9) (H1 10) (H1 11), k_StO g a (o+28), k_Sheet g a (o+29) (H2 0 0) (H2 1) (H2 2) (H2 3) (H2 4), k_Settings g a (o+34) (H2 5 0) (H2 5 1) (H2 5 2) (H2 5 3) (H2 5 4) (H2 5 5) (H2 5 6) (H2 5 7) (H2 5 8) (H2 5 9) (H2 5 10) (H2 5 11), k_Places g a (o+35) (H2 6 0) (H2 7) (H2 8) (H2 9) (H2 10) (H2 11), k_StO g a (o+41), k_Sheet g a (o+42) (H3 0 0) (H3 1) (H3 2) (H3 3) (H3 4), k_Settings g a (o+47) (H3 5 0) (H3 5 1) (H3 5 2) (H3 5 3) (H3 5 4) (H3 5 5) (H3 5 6) (H3 5 7) (H3 5 8) (H3 5 9) (H3 5 10) (H3 5 11), k_Places g a (o+48) (H3 6 0) (H3 7) (H3 8) (H3 9) (H3 10) (H3 11), k_StO g a (o+54), k_Sheet g a (o+55) (H4 0 0) (H4 1) (H4 2) (H4 3) (H4 4), k_Settings g a (o+60) (H4 5 0) (H4 5 1) (H4 5 2) (H4 5 3) (H4 5 4) (H4 5 5) (H4 5 6) (H4 5 7) (H4 5 8) (H4 5 9) (H4 5 10) (H4 5 11), k_Places g a (o+61) (H4 6 0) (H4 7) (H4 8) (H4 9) (H4 10) (H4 11), k_StO g a1 o1, k_Sheet g a1 (o1+1) (r4 0 0) (r4 1) (r4 2) (r4 3) (r4 4), k_Settings g a1 (o1+6) (r4 5 0) (r4 5 1) (r4 5 2) (r4 5 3) (r4 5 4) (r4 5 5) (r4 5 6) (r4 5 7) (r4 5 8) (r4 5 9) (r4 5 10) (r4 5 11), k_Places g a1 (o1+7) (r4 6 0) (r4 7) (r4 8) (r4 9) (r4 10) (r4 11)]) rfl dX2_takeBack_47 (fun H locs hw => ?_)
        obtain rfl := Option.some.inj h
        exact b_vret hQ hx hb hr hlk hw rfl dX2_takeBack_50
    · rw [if_neg hc8_1] at h
      by_cases hc8_2 : hLatest = 2
      · rw [if_pos hc8_2] at h
        refine b_aald hx hb hK hw 0 1 rfl rfl (x := (a (o+28))) (by rw [hc8_2]; exact (show ¬ ((2 : Int32) < 0 ∨ 5 ≤ (2 : Int32).toNatClampNeg) by decide)) (by rw [hc8_2, show (2 : Int32).toNatClampNeg = 2 by decide]; rfl) dX2_takeBack_8 ?_
        refine lv_astore_n (lv' := [(2, .ref (a (o+28))), (0, .ref (a o)), (1, .ref (a1 o1))]) hx hb dX2_takeBack_9 rfl hl (by decide) rfl (fun ls hl => ?_)
        refine lv_aload_n hx hb dX2_takeBack_10 rfl (lv_at hl 1 rfl) ?_
        refine b_get hx hb hT hK hown fl_X2_26 hw 0 0 rfl rfl (v := .int hCount) rfl dX2_takeBack_11 ?_
        refine lv_if_le (tgt := 50) hx hb dX2_takeBack_14 (by decide) (fun hc14 => ?_) (fun hc14 => ?_)
        · rw [if_pos hc14] at h
          obtain rfl := Option.some.inj h
          exact b_vret hQ hx hb hr hlk hw rfl dX2_takeBack_50
        · rw [if_neg hc14] at h
          refine lv_aload_n hx hb dX2_takeBack_17 rfl (lv_at hl 0 rfl) ?_
          refine lv_ifnull hx hb dX2_takeBack_18 ?_
          refine lv_aload_n hx hb dX2_takeBack_21 rfl (lv_at hl 2 rfl) ?_
          refine lv_aload_n hx hb dX2_takeBack_22 rfl (lv_at hl 0 rfl) ?_
          obtain ⟨r7, er7, h⟩ := g_cl_some h
          refine b_callV hx hb hml hown hT hK hA hw mk_X2_22 (c_X8_copyFrom l D g a1 o1 a (o+28) S2 H2 r7 er7) [21, 22, 23, 24, 9, 10, 11, 12] [0, 1, 2, 3, 4, 5, 6, 7, 8, 13, 14, 15, 16, 17, 18, 19, 20] rfl (by decide) 21 0 rfl rfl rfl rfl hl.1 [] rfl (Nat.le_of_ble_eq_true rfl) ⟨Nat.le_of_ble_eq_true rfl, Nat.le_of_ble_eq_true rfl⟩ ⟨Nat.zero_le _, Nat.zero_le _⟩ dX2_takeBack_23 (wb' := [k_Hist g a o hLatest hCount, k_StO g a (o+2), k_Sheet g a (o+3) (H0 0 0) (H0 1) (H0 2) (H0 3) (H0 4), k_Settings g a (o+8) (H0 5 0) (H0 5 1) (H0 5 2) (H0 5 3) (H0 5 4) (H0 5 5) (H0 5 6) (H0 5 7) (H0 5 8) (H0 5 9) (H0 5 10) (H0 5 11), k_Places g a (o+9) (H0 6 0) (H0 7) (H0 8) (H0 9) (H0 10) (H0 11), k_StO g a (o+15), k_Sheet g a (o+16) (H1 0 0) (H1 1) (H1 2) (H1 3) (H1 4), k_Settings g a (o+21) (H1 5 0) (H1 5 1) (H1 5 2) (H1 5 3) (H1 5 4) (H1 5 5) (H1 5 6) (H1 5 7) (H1 5 8) (H1 5 9) (H1 5 10) (H1 5 11), k_Places g a (o+22) (H1 6 0) (H1 7) (H1 8) (H1 9) (H1 10) (H1 11), k_StO g a (o+28), k_Sheet g a (o+29) (H2 0 0) (H2 1) (H2 2) (H2 3) (H2 4), k_Settings g a (o+34) (H2 5 0) (H2 5 1) (H2 5 2) (H2 5 3) (H2 5 4) (H2 5 5) (H2 5 6) (H2 5 7) (H2 5 8) (H2 5 9) (H2 5 10) (H2 5 11), k_Places g a (o+35) (H2 6 0) (H2 7) (H2 8) (H2 9) (H2 10) (H2 11), k_StO g a (o+41), k_Sheet g a (o+42) (H3 0 0) (H3 1) (H3 2) (H3 3) (H3 4), k_Settings g a (o+47) (H3 5 0) (H3 5 1) (H3 5 2) (H3 5 3) (H3 5 4) (H3 5 5) (H3 5 6) (H3 5 7) (H3 5 8) (H3 5 9) (H3 5 10) (H3 5 11), k_Places g a (o+48) (H3 6 0) (H3 7) (H3 8) (H3 9) (H3 10) (H3 11), k_StO g a (o+54), k_Sheet g a (o+55) (H4 0 0) (H4 1) (H4 2) (H4 3) (H4 4), k_Settings g a (o+60) (H4 5 0) (H4 5 1) (H4 5 2) (H4 5 3) (H4 5 4) (H4 5 5) (H4 5 6) (H4 5 7) (H4 5 8) (H4 5 9) (H4 5 10) (H4 5 11), k_Places g a (o+61) (H4 6 0) (H4 7) (H4 8) (H4 9) (H4 10) (H4 11), k_StO g a1 o1, k_Sheet g a1 (o1+1) (r7 0 0) (r7 1) (r7 2) (r7 3) (r7 4), k_Settings g a1 (o1+6) (r7 5 0) (r7 5 1) (r7 5 2) (r7 5 3) (r7 5 4) (r7 5 5) (r7 5 6) (r7 5 7) (r7 5 8) (r7 5 9) (r7 5 10) (r7 5 11), k_Places g a1 (o1+7) (r7 6 0) (r7 7) (r7 8) (r7 9) (r7 10) (r7 11)]) rfl (b_e1 rfl (b_e1 rfl (b_e1 rfl (b_e1 rfl (b_e1 rfl (b_e1 rfl (b_e1 rfl (b_e1 rfl (b_e1 rfl (b_e1 rfl (b_e1 rfl (b_e1 rfl (b_e1 rfl (b_e1 rfl (b_e1 rfl (b_e1 rfl (b_e1 rfl b_e0))))))))))))))))) 25 rfl (by decide) (st2 := []) rfl (fun H locs hw => ?_)
          refine lv_aload_n hx hb dX2_takeBack_26 rfl (lv_at hl 1 rfl) ?_
          refine lv_dup hx hb dX2_takeBack_27 rfl ?_
          refine b_get hx hb hT hK hown fl_X2_26 hw 0 0 rfl rfl (v := .int hCount) rfl dX2_takeBack_28 ?_
          refine lv_iconst (v := 1) hx hb dX2_takeBack_31 (by decide) ?_
          refine lv_isub hx hb dX2_takeBack_32 ?_
          obtain ⟨x8, ex8, h⟩ := g_bd_nm h
          refine g_topi ex8 ?_
          refine b_putf hx hb hT hK hown fl_X2_26 ft_X2 hw 0 0 rfl rfl rfl rfl rfl (Nat.le_of_ble_eq_true rfl) rfl (wb' := [k_Hist g a o hLatest x8, k_StO g a (o+2), k_Sheet g a (o+3) (H0 0 0) (H0 1) (H0 2) (H0 3) (H0 4), k_Settings g a (o+8) (H0 5 0) (H0 5 1) (H0 5 2) (H0 5 3) (H0 5 4) (H0 5 5) (H0 5 6) (H0 5 7) (H0 5 8) (H0 5 9) (H0 5 10) (H0 5 11), k_Places g a (o+9) (H0 6 0) (H0 7) (H0 8) (H0 9) (H0 10) (H0 11), k_StO g a (o+15), k_Sheet g a (o+16) (H1 0 0) (H1 1) (H1 2) (H1 3) (H1 4), k_Settings g a (o+21) (H1 5 0) (H1 5 1) (H1 5 2) (H1 5 3) (H1 5 4) (H1 5 5) (H1 5 6) (H1 5 7) (H1 5 8) (H1 5 9) (H1 5 10) (H1 5 11), k_Places g a (o+22) (H1 6 0) (H1 7) (H1 8) (H1 9) (H1 10) (H1 11), k_StO g a (o+28), k_Sheet g a (o+29) (H2 0 0) (H2 1) (H2 2) (H2 3) (H2 4), k_Settings g a (o+34) (H2 5 0) (H2 5 1) (H2 5 2) (H2 5 3) (H2 5 4) (H2 5 5) (H2 5 6) (H2 5 7) (H2 5 8) (H2 5 9) (H2 5 10) (H2 5 11), k_Places g a (o+35) (H2 6 0) (H2 7) (H2 8) (H2 9) (H2 10) (H2 11), k_StO g a (o+41), k_Sheet g a (o+42) (H3 0 0) (H3 1) (H3 2) (H3 3) (H3 4), k_Settings g a (o+47) (H3 5 0) (H3 5 1) (H3 5 2) (H3 5 3) (H3 5 4) (H3 5 5) (H3 5 6) (H3 5 7) (H3 5 8) (H3 5 9) (H3 5 10) (H3 5 11), k_Places g a (o+48) (H3 6 0) (H3 7) (H3 8) (H3 9) (H3 10) (H3 11), k_StO g a (o+54), k_Sheet g a (o+55) (H4 0 0) (H4 1) (H4 2) (H4 3) (H4 4), k_Settings g a (o+60) (H4 5 0) (H4 5 1) (H4 5 2) (H4 5 3) (H4 5 4) (H4 5 5) (H4 5 6) (H4 5 7) (H4 5 8) (H4 5 9) (H4 5 10) (H4 5 11), k_Places g a (o+61) (H4 6 0) (H4 7) (H4 8) (H4 9) (H4 10) (H4 11), k_StO g a1 o1, k_Sheet g a1 (o1+1) (r7 0 0) (r7 1) (r7 2) (r7 3) (r7 4), k_Settings g a1 (o1+6) (r7 5 0) (r7 5 1) (r7 5 2) (r7 5 3) (r7 5 4) (r7 5 5) (r7 5 6) (r7 5 7) (r7 5 8) (r7 5 9) (r7 5 10) (r7 5 11), k_Places g a1 (o1+7) (r7 6 0) (r7 7) (r7 8) (r7 9) (r7 10) (r7 11)]) rfl dX2_takeBack_33 (fun H locs hw => ?_)
          refine lv_aload_n hx hb dX2_takeBack_36 rfl (lv_at hl 1 rfl) ?_
          refine lv_aload_n hx hb dX2_takeBack_37 rfl (lv_at hl 1 rfl) ?_
          refine b_get hx hb hT hK hown fl_X2_18 hw 0 0 rfl rfl (v := .int hLatest) rfl dX2_takeBack_38 ?_
          refine lv_iconst (v := 5) hx hb dX2_takeBack_41 (by decide) ?_
          refine lv_iadd hx hb dX2_takeBack_42 ?_
          refine lv_iconst (v := 1) hx hb dX2_takeBack_43 (by decide) ?_
          refine lv_isub hx hb dX2_takeBack_44 ?_
          refine lv_iconst (v := 5) hx hb dX2_takeBack_45 (by decide) ?_
          refine g_irem hx hb dX2_takeBack_46 (by decide) ?_
          obtain ⟨x9, ex9, h⟩ := g_bd_nm h
          refine g_topi ex9 ?_
          refine b_putf hx hb hT hK hown fl_X2_18 ft_X2 hw 0 0 rfl rfl rfl rfl rfl (Nat.le_of_ble_eq_true rfl) rfl (wb' := [k_Hist g a o x9 x8, k_StO g a (o+2), k_Sheet g a (o+3) (H0 0 0) (H0 1) (H0 2) (H0 3) (H0 4), k_Settings g a (o+8) (H0 5 0) (H0 5 1) (H0 5 2) (H0 5 3) (H0 5 4) (H0 5 5) (H0 5 6) (H0 5 7) (H0 5 8) (H0 5 9) (H0 5 10) (H0 5 11), k_Places g a (o+9) (H0 6 0) (H0 7) (H0 8) (H0 9) (H0 10) (H0 11), k_StO g a (o+15), k_Sheet g a (o+16) (H1 0 0) (H1 1) (H1 2) (H1 3) (H1 4), k_Settings g a (o+21) (H1 5 0) (H1 5 1) (H1 5 2) (H1 5 3) (H1 5 4) (H1 5 5) (H1 5 6) (H1 5 7) (H1 5 8) (H1 5 9) (H1 5 10) (H1 5 11), k_Places g a (o+22) (H1 6 0) (H1 7) (H1 8) (H1 9) (H1 10) (H1 11), k_StO g a (o+28), k_Sheet g a (o+29) (H2 0 0) (H2 1) (H2 2) (H2 3) (H2 4), k_Settings g a (o+34) (H2 5 0) (H2 5 1) (H2 5 2) (H2 5 3) (H2 5 4) (H2 5 5) (H2 5 6) (H2 5 7) (H2 5 8) (H2 5 9) (H2 5 10) (H2 5 11), k_Places g a (o+35) (H2 6 0) (H2 7) (H2 8) (H2 9) (H2 10) (H2 11), k_StO g a (o+41), k_Sheet g a (o+42) (H3 0 0) (H3 1) (H3 2) (H3 3) (H3 4), k_Settings g a (o+47) (H3 5 0) (H3 5 1) (H3 5 2) (H3 5 3) (H3 5 4) (H3 5 5) (H3 5 6) (H3 5 7) (H3 5 8) (H3 5 9) (H3 5 10) (H3 5 11), k_Places g a (o+48) (H3 6 0) (H3 7) (H3 8) (H3 9) (H3 10) (H3 11), k_StO g a (o+54), k_Sheet g a (o+55) (H4 0 0) (H4 1) (H4 2) (H4 3) (H4 4), k_Settings g a (o+60) (H4 5 0) (H4 5 1) (H4 5 2) (H4 5 3) (H4 5 4) (H4 5 5) (H4 5 6) (H4 5 7) (H4 5 8) (H4 5 9) (H4 5 10) (H4 5 11), k_Places g a (o+61) (H4 6 0) (H4 7) (H4 8) (H4 9) (H4 10) (H4 11), k_StO g a1 o1, k_Sheet g a1 (o1+1) (r7 0 0) (r7 1) (r7 2) (r7 3) (r7 4), k_Settings g a1 (o1+6) (r7 5 0) (r7 5 1) (r7 5 2) (r7 5 3) (r7 5 4) (r7 5 5) (r7 5 6) (r7 5 7) (r7 5 8) (r7 5 9) (r7 5 10) (r7 5 11), k_Places g a1 (o1+7) (r7 6 0) (r7 7) (r7 8) (r7 9) (r7 10) (r7 11)]) rfl dX2_takeBack_47 (fun H locs hw => ?_)
          obtain rfl := Option.some.inj h
          exact b_vret hQ hx hb hr hlk hw rfl dX2_takeBack_50
      · rw [if_neg hc8_2] at h
        by_cases hc8_3 : hLatest = 3
        · rw [if_pos hc8_3] at h
          refine b_aald hx hb hK hw 0 1 rfl rfl (x := (a (o+41))) (by rw [hc8_3]; exact (show ¬ ((3 : Int32) < 0 ∨ 5 ≤ (3 : Int32).toNatClampNeg) by decide)) (by rw [hc8_3, show (3 : Int32).toNatClampNeg = 3 by decide]; rfl) dX2_takeBack_8 ?_
          refine lv_astore_n (lv' := [(2, .ref (a (o+41))), (0, .ref (a o)), (1, .ref (a1 o1))]) hx hb dX2_takeBack_9 rfl hl (by decide) rfl (fun ls hl => ?_)
          refine lv_aload_n hx hb dX2_takeBack_10 rfl (lv_at hl 1 rfl) ?_
          refine b_get hx hb hT hK hown fl_X2_26 hw 0 0 rfl rfl (v := .int hCount) rfl dX2_takeBack_11 ?_
          refine lv_if_le (tgt := 50) hx hb dX2_takeBack_14 (by decide) (fun hc14 => ?_) (fun hc14 => ?_)
          · rw [if_pos hc14] at h
            obtain rfl := Option.some.inj h
            exact b_vret hQ hx hb hr hlk hw rfl dX2_takeBack_50
          · rw [if_neg hc14] at h
            refine lv_aload_n hx hb dX2_takeBack_17 rfl (lv_at hl 0 rfl) ?_
            refine lv_ifnull hx hb dX2_takeBack_18 ?_
            refine lv_aload_n hx hb dX2_takeBack_21 rfl (lv_at hl 2 rfl) ?_
            refine lv_aload_n hx hb dX2_takeBack_22 rfl (lv_at hl 0 rfl) ?_
            obtain ⟨r10, er10, h⟩ := g_cl_some h
            refine b_callV hx hb hml hown hT hK hA hw mk_X2_22 (c_X8_copyFrom l D g a1 o1 a (o+41) S2 H3 r10 er10) [21, 22, 23, 24, 13, 14, 15, 16] [0, 1, 2, 3, 4, 5, 6, 7, 8, 9, 10, 11, 12, 17, 18, 19, 20] rfl (by decide) 21 0 rfl rfl rfl rfl hl.1 [] rfl (Nat.le_of_ble_eq_true rfl) ⟨Nat.le_of_ble_eq_true rfl, Nat.le_of_ble_eq_true rfl⟩ ⟨Nat.zero_le _, Nat.zero_le _⟩ dX2_takeBack_23 (wb' := [k_Hist g a o hLatest hCount, k_StO g a (o+2), k_Sheet g a (o+3) (H0 0 0) (H0 1) (H0 2) (H0 3) (H0 4), k_Settings g a (o+8) (H0 5 0) (H0 5 1) (H0 5 2) (H0 5 3) (H0 5 4) (H0 5 5) (H0 5 6) (H0 5 7) (H0 5 8) (H0 5 9) (H0 5 10) (H0 5 11), k_Places g a (o+9) (H0 6 0) (H0 7) (H0 8) (H0 9) (H0 10) (H0 11), k_StO g a (o+15), k_Sheet g a (o+16) (H1 0 0) (H1 1) (H1 2) (H1 3) (H1 4), k_Settings g a (o+21) (H1 5 0) (H1 5 1) (H1 5 2) (H1 5 3) (H1 5 4) (H1 5 5) (H1 5 6) (H1 5 7) (H1 5 8) (H1 5 9) (H1 5 10) (H1 5 11), k_Places g a (o+22) (H1 6 0) (H1 7) (H1 8) (H1 9) (H1 10) (H1 11), k_StO g a (o+28), k_Sheet g a (o+29) (H2 0 0) (H2 1) (H2 2) (H2 3) (H2 4), k_Settings g a (o+34) (H2 5 0) (H2 5 1) (H2 5 2) (H2 5 3) (H2 5 4) (H2 5 5) (H2 5 6) (H2 5 7) (H2 5 8) (H2 5 9) (H2 5 10) (H2 5 11), k_Places g a (o+35) (H2 6 0) (H2 7) (H2 8) (H2 9) (H2 10) (H2 11), k_StO g a (o+41), k_Sheet g a (o+42) (H3 0 0) (H3 1) (H3 2) (H3 3) (H3 4), k_Settings g a (o+47) (H3 5 0) (H3 5 1) (H3 5 2) (H3 5 3) (H3 5 4) (H3 5 5) (H3 5 6) (H3 5 7) (H3 5 8) (H3 5 9) (H3 5 10) (H3 5 11), k_Places g a (o+48) (H3 6 0) (H3 7) (H3 8) (H3 9) (H3 10) (H3 11), k_StO g a (o+54), k_Sheet g a (o+55) (H4 0 0) (H4 1) (H4 2) (H4 3) (H4 4), k_Settings g a (o+60) (H4 5 0) (H4 5 1) (H4 5 2) (H4 5 3) (H4 5 4) (H4 5 5) (H4 5 6) (H4 5 7) (H4 5 8) (H4 5 9) (H4 5 10) (H4 5 11), k_Places g a (o+61) (H4 6 0) (H4 7) (H4 8) (H4 9) (H4 10) (H4 11), k_StO g a1 o1, k_Sheet g a1 (o1+1) (r10 0 0) (r10 1) (r10 2) (r10 3) (r10 4), k_Settings g a1 (o1+6) (r10 5 0) (r10 5 1) (r10 5 2) (r10 5 3) (r10 5 4) (r10 5 5) (r10 5 6) (r10 5 7) (r10 5 8) (r10 5 9) (r10 5 10) (r10 5 11), k_Places g a1 (o1+7) (r10 6 0) (r10 7) (r10 8) (r10 9) (r10 10) (r10 11)]) rfl (b_e1 rfl (b_e1 rfl (b_e1 rfl (b_e1 rfl (b_e1 rfl (b_e1 rfl (b_e1 rfl (b_e1 rfl (b_e1 rfl (b_e1 rfl (b_e1 rfl (b_e1 rfl (b_e1 rfl (b_e1 rfl (b_e1 rfl (b_e1 rfl (b_e1 rfl b_e0))))))))))))))))) 25 rfl (by decide) (st2 := []) rfl (fun H locs hw => ?_)
            refine lv_aload_n hx hb dX2_takeBack_26 rfl (lv_at hl 1 rfl) ?_
            refine lv_dup hx hb dX2_takeBack_27 rfl ?_
            refine b_get hx hb hT hK hown fl_X2_26 hw 0 0 rfl rfl (v := .int hCount) rfl dX2_takeBack_28 ?_
            refine lv_iconst (v := 1) hx hb dX2_takeBack_31 (by decide) ?_
            refine lv_isub hx hb dX2_takeBack_32 ?_
            obtain ⟨x11, ex11, h⟩ := g_bd_nm h
            refine g_topi ex11 ?_
            refine b_putf hx hb hT hK hown fl_X2_26 ft_X2 hw 0 0 rfl rfl rfl rfl rfl (Nat.le_of_ble_eq_true rfl) rfl (wb' := [k_Hist g a o hLatest x11, k_StO g a (o+2), k_Sheet g a (o+3) (H0 0 0) (H0 1) (H0 2) (H0 3) (H0 4), k_Settings g a (o+8) (H0 5 0) (H0 5 1) (H0 5 2) (H0 5 3) (H0 5 4) (H0 5 5) (H0 5 6) (H0 5 7) (H0 5 8) (H0 5 9) (H0 5 10) (H0 5 11), k_Places g a (o+9) (H0 6 0) (H0 7) (H0 8) (H0 9) (H0 10) (H0 11), k_StO g a (o+15), k_Sheet g a (o+16) (H1 0 0) (H1 1) (H1 2) (H1 3) (H1 4), k_Settings g a (o+21) (H1 5 0) (H1 5 1) (H1 5 2) (H1 5 3) (H1 5 4) (H1 5 5) (H1 5 6) (H1 5 7) (H1 5 8) (H1 5 9) (H1 5 10) (H1 5 11), k_Places g a (o+22) (H1 6 0) (H1 7) (H1 8) (H1 9) (H1 10) (H1 11), k_StO g a (o+28), k_Sheet g a (o+29) (H2 0 0) (H2 1) (H2 2) (H2 3) (H2 4), k_Settings g a (o+34) (H2 5 0) (H2 5 1) (H2 5 2) (H2 5 3) (H2 5 4) (H2 5 5) (H2 5 6) (H2 5 7) (H2 5 8) (H2 5 9) (H2 5 10) (H2 5 11), k_Places g a (o+35) (H2 6 0) (H2 7) (H2 8) (H2 9) (H2 10) (H2 11), k_StO g a (o+41), k_Sheet g a (o+42) (H3 0 0) (H3 1) (H3 2) (H3 3) (H3 4), k_Settings g a (o+47) (H3 5 0) (H3 5 1) (H3 5 2) (H3 5 3) (H3 5 4) (H3 5 5) (H3 5 6) (H3 5 7) (H3 5 8) (H3 5 9) (H3 5 10) (H3 5 11), k_Places g a (o+48) (H3 6 0) (H3 7) (H3 8) (H3 9) (H3 10) (H3 11), k_StO g a (o+54), k_Sheet g a (o+55) (H4 0 0) (H4 1) (H4 2) (H4 3) (H4 4), k_Settings g a (o+60) (H4 5 0) (H4 5 1) (H4 5 2) (H4 5 3) (H4 5 4) (H4 5 5) (H4 5 6) (H4 5 7) (H4 5 8) (H4 5 9) (H4 5 10) (H4 5 11), k_Places g a (o+61) (H4 6 0) (H4 7) (H4 8) (H4 9) (H4 10) (H4 11), k_StO g a1 o1, k_Sheet g a1 (o1+1) (r10 0 0) (r10 1) (r10 2) (r10 3) (r10 4), k_Settings g a1 (o1+6) (r10 5 0) (r10 5 1) (r10 5 2) (r10 5 3) (r10 5 4) (r10 5 5) (r10 5 6) (r10 5 7) (r10 5 8) (r10 5 9) (r10 5 10) (r10 5 11), k_Places g a1 (o1+7) (r10 6 0) (r10 7) (r10 8) (r10 9) (r10 10) (r10 11)]) rfl dX2_takeBack_33 (fun H locs hw => ?_)
            refine lv_aload_n hx hb dX2_takeBack_36 rfl (lv_at hl 1 rfl) ?_
            refine lv_aload_n hx hb dX2_takeBack_37 rfl (lv_at hl 1 rfl) ?_
            refine b_get hx hb hT hK hown fl_X2_18 hw 0 0 rfl rfl (v := .int hLatest) rfl dX2_takeBack_38 ?_
            refine lv_iconst (v := 5) hx hb dX2_takeBack_41 (by decide) ?_
            refine lv_iadd hx hb dX2_takeBack_42 ?_
            refine lv_iconst (v := 1) hx hb dX2_takeBack_43 (by decide) ?_
            refine lv_isub hx hb dX2_takeBack_44 ?_
            refine lv_iconst (v := 5) hx hb dX2_takeBack_45 (by decide) ?_
            refine g_irem hx hb dX2_takeBack_46 (by decide) ?_
            obtain ⟨x12, ex12, h⟩ := g_bd_nm h
            refine g_topi ex12 ?_
            refine b_putf hx hb hT hK hown fl_X2_18 ft_X2 hw 0 0 rfl rfl rfl rfl rfl (Nat.le_of_ble_eq_true rfl) rfl (wb' := [k_Hist g a o x12 x11, k_StO g a (o+2), k_Sheet g a (o+3) (H0 0 0) (H0 1) (H0 2) (H0 3) (H0 4), k_Settings g a (o+8) (H0 5 0) (H0 5 1) (H0 5 2) (H0 5 3) (H0 5 4) (H0 5 5) (H0 5 6) (H0 5 7) (H0 5 8) (H0 5 9) (H0 5 10) (H0 5 11), k_Places g a (o+9) (H0 6 0) (H0 7) (H0 8) (H0 9) (H0 10) (H0 11), k_StO g a (o+15), k_Sheet g a (o+16) (H1 0 0) (H1 1) (H1 2) (H1 3) (H1 4), k_Settings g a (o+21) (H1 5 0) (H1 5 1) (H1 5 2) (H1 5 3) (H1 5 4) (H1 5 5) (H1 5 6) (H1 5 7) (H1 5 8) (H1 5 9) (H1 5 10) (H1 5 11), k_Places g a (o+22) (H1 6 0) (H1 7) (H1 8) (H1 9) (H1 10) (H1 11), k_StO g a (o+28), k_Sheet g a (o+29) (H2 0 0) (H2 1) (H2 2) (H2 3) (H2 4), k_Settings g a (o+34) (H2 5 0) (H2 5 1) (H2 5 2) (H2 5 3) (H2 5 4) (H2 5 5) (H2 5 6) (H2 5 7) (H2 5 8) (H2 5 9) (H2 5 10) (H2 5 11), k_Places g a (o+35) (H2 6 0) (H2 7) (H2 8) (H2 9) (H2 10) (H2 11), k_StO g a (o+41), k_Sheet g a (o+42) (H3 0 0) (H3 1) (H3 2) (H3 3) (H3 4), k_Settings g a (o+47) (H3 5 0) (H3 5 1) (H3 5 2) (H3 5 3) (H3 5 4) (H3 5 5) (H3 5 6) (H3 5 7) (H3 5 8) (H3 5 9) (H3 5 10) (H3 5 11), k_Places g a (o+48) (H3 6 0) (H3 7) (H3 8) (H3 9) (H3 10) (H3 11), k_StO g a (o+54), k_Sheet g a (o+55) (H4 0 0) (H4 1) (H4 2) (H4 3) (H4 4), k_Settings g a (o+60) (H4 5 0) (H4 5 1) (H4 5 2) (H4 5 3) (H4 5 4) (H4 5 5) (H4 5 6) (H4 5 7) (H4 5 8) (H4 5 9) (H4 5 10) (H4 5 11), k_Places g a (o+61) (H4 6 0) (H4 7) (H4 8) (H4 9) (H4 10) (H4 11), k_StO g a1 o1, k_Sheet g a1 (o1+1) (r10 0 0) (r10 1) (r10 2) (r10 3) (r10 4), k_Settings g a1 (o1+6) (r10 5 0) (r10 5 1) (r10 5 2) (r10 5 3) (r10 5 4) (r10 5 5) (r10 5 6) (r10 5 7) (r10 5 8) (r10 5 9) (r10 5 10) (r10 5 11), k_Places g a1 (o1+7) (r10 6 0) (r10 7) (r10 8) (r10 9) (r10 10) (r10 11)]) rfl dX2_takeBack_47 (fun H locs hw => ?_)
            obtain rfl := Option.some.inj h
            exact b_vret hQ hx hb hr hlk hw rfl dX2_takeBack_50
        · rw [if_neg hc8_3] at h
          by_cases hc8_4 : hLatest = 4
          · rw [if_pos hc8_4] at h
            refine b_aald hx hb hK hw 0 1 rfl rfl (x := (a (o+54))) (by rw [hc8_4]; exact (show ¬ ((4 : Int32) < 0 ∨ 5 ≤ (4 : Int32).toNatClampNeg) by decide)) (by rw [hc8_4, show (4 : Int32).toNatClampNeg = 4 by decide]; rfl) dX2_takeBack_8 ?_
            refine lv_astore_n (lv' := [(2, .ref (a (o+54))), (0, .ref (a o)), (1, .ref (a1 o1))]) hx hb dX2_takeBack_9 rfl hl (by decide) rfl (fun ls hl => ?_)
            refine lv_aload_n hx hb dX2_takeBack_10 rfl (lv_at hl 1 rfl) ?_
            refine b_get hx hb hT hK hown fl_X2_26 hw 0 0 rfl rfl (v := .int hCount) rfl dX2_takeBack_11 ?_
            refine lv_if_le (tgt := 50) hx hb dX2_takeBack_14 (by decide) (fun hc14 => ?_) (fun hc14 => ?_)
            · rw [if_pos hc14] at h
              obtain rfl := Option.some.inj h
              exact b_vret hQ hx hb hr hlk hw rfl dX2_takeBack_50
            · rw [if_neg hc14] at h
              refine lv_aload_n hx hb dX2_takeBack_17 rfl (lv_at hl 0 rfl) ?_
              refine lv_ifnull hx hb dX2_takeBack_18 ?_
              refine lv_aload_n hx hb dX2_takeBack_21 rfl (lv_at hl 2 rfl) ?_
              refine lv_aload_n hx hb dX2_takeBack_22 rfl (lv_at hl 0 rfl) ?_
              obtain ⟨r13, er13, h⟩ := g_cl_some h
              refine b_callV hx hb hml hown hT hK hA hw mk_X2_22 (c_X8_copyFrom l D g a1 o1 a (o+54) S2 H4 r13 er13) [21, 22, 23, 24, 17, 18, 19, 20] [0, 1, 2, 3, 4, 5, 6, 7, 8, 9, 10, 11, 12, 13, 14, 15, 16] rfl (by decide) 21 0 rfl rfl rfl rfl hl.1 [] rfl (Nat.le_of_ble_eq_true rfl) ⟨Nat.le_of_ble_eq_true rfl, Nat.le_of_ble_eq_true rfl⟩ ⟨Nat.zero_le _, Nat.zero_le _⟩ dX2_takeBack_23 (wb' := [k_Hist g a o hLatest hCount, k_StO g a (o+2), k_Sheet g a (o+3) (H0 0 0) (H0 1) (H0 2) (H0 3) (H0 4), k_Settings g a (o+8) (H0 5 0) (H0 5 1) (H0 5 2) (H0 5 3) (H0 5 4) (H0 5 5) (H0 5 6) (H0 5 7) (H0 5 8) (H0 5 9) (H0 5 10) (H0 5 11), k_Places g a (o+9) (H0 6 0) (H0 7) (H0 8) (H0 9) (H0 10) (H0 11), k_StO g a (o+15), k_Sheet g a (o+16) (H1 0 0) (H1 1) (H1 2) (H1 3) (H1 4), k_Settings g a (o+21) (H1 5 0) (H1 5 1) (H1 5 2) (H1 5 3) (H1 5 4) (H1 5 5) (H1 5 6) (H1 5 7) (H1 5 8) (H1 5 9) (H1 5 10) (H1 5 11), k_Places g a (o+22) (H1 6 0) (H1 7) (H1 8) (H1 9) (H1 10) (H1 11), k_StO g a (o+28), k_Sheet g a (o+29) (H2 0 0) (H2 1) (H2 2) (H2 3) (H2 4), k_Settings g a (o+34) (H2 5 0) (H2 5 1) (H2 5 2) (H2 5 3) (H2 5 4) (H2 5 5) (H2 5 6) (H2 5 7) (H2 5 8) (H2 5 9) (H2 5 10) (H2 5 11), k_Places g a (o+35) (H2 6 0) (H2 7) (H2 8) (H2 9) (H2 10) (H2 11), k_StO g a (o+41), k_Sheet g a (o+42) (H3 0 0) (H3 1) (H3 2) (H3 3) (H3 4), k_Settings g a (o+47) (H3 5 0) (H3 5 1) (H3 5 2) (H3 5 3) (H3 5 4) (H3 5 5) (H3 5 6) (H3 5 7) (H3 5 8) (H3 5 9) (H3 5 10) (H3 5 11), k_Places g a (o+48) (H3 6 0) (H3 7) (H3 8) (H3 9) (H3 10) (H3 11), k_StO g a (o+54), k_Sheet g a (o+55) (H4 0 0) (H4 1) (H4 2) (H4 3) (H4 4), k_Settings g a (o+60) (H4 5 0) (H4 5 1) (H4 5 2) (H4 5 3) (H4 5 4) (H4 5 5) (H4 5 6) (H4 5 7) (H4 5 8) (H4 5 9) (H4 5 10) (H4 5 11), k_Places g a (o+61) (H4 6 0) (H4 7) (H4 8) (H4 9) (H4 10) (H4 11), k_StO g a1 o1, k_Sheet g a1 (o1+1) (r13 0 0) (r13 1) (r13 2) (r13 3) (r13 4), k_Settings g a1 (o1+6) (r13 5 0) (r13 5 1) (r13 5 2) (r13 5 3) (r13 5 4) (r13 5 5) (r13 5 6) (r13 5 7) (r13 5 8) (r13 5 9) (r13 5 10) (r13 5 11), k_Places g a1 (o1+7) (r13 6 0) (r13 7) (r13 8) (r13 9) (r13 10) (r13 11)]) rfl (b_e1 rfl (b_e1 rfl (b_e1 rfl (b_e1 rfl (b_e1 rfl (b_e1 rfl (b_e1 rfl (b_e1 rfl (b_e1 rfl (b_e1 rfl (b_e1 rfl (b_e1 rfl (b_e1 rfl (b_e1 rfl (b_e1 rfl (b_e1 rfl (b_e1 rfl b_e0))))))))))))))))) 25 rfl (by decide) (st2 := []) rfl (fun H locs hw => ?_)
              refine lv_aload_n hx hb dX2_takeBack_26 rfl (lv_at hl 1 rfl) ?_
              refine lv_dup hx hb dX2_takeBack_27 rfl ?_
              refine b_get hx hb hT hK hown fl_X2_26 hw 0 0 rfl rfl (v := .int hCount) rfl dX2_takeBack_28 ?_
              refine lv_iconst (v := 1) hx hb dX2_takeBack_31 (by decide) ?_
              refine lv_isub hx hb dX2_takeBack_32 ?_
              obtain ⟨x14, ex14, h⟩ := g_bd_nm h
              refine g_topi ex14 ?_
              refine b_putf hx hb hT hK hown fl_X2_26 ft_X2 hw 0 0 rfl rfl rfl rfl rfl (Nat.le_of_ble_eq_true rfl) rfl (wb' := [k_Hist g a o hLatest x14, k_StO g a (o+2), k_Sheet g a (o+3) (H0 0 0) (H0 1) (H0 2) (H0 3) (H0 4), k_Settings g a (o+8) (H0 5 0) (H0 5 1) (H0 5 2) (H0 5 3) (H0 5 4) (H0 5 5) (H0 5 6) (H0 5 7) (H0 5 8) (H0 5 9) (H0 5 10) (H0 5 11), k_Places g a (o+9) (H0 6 0) (H0 7) (H0 8) (H0 9) (H0 10) (H0 11), k_StO g a (o+15), k_Sheet g a (o+16) (H1 0 0) (H1 1) (H1 2) (H1 3) (H1 4), k_Settings g a (o+21) (H1 5 0) (H1 5 1) (H1 5 2) (H1 5 3) (H1 5 4) (H1 5 5) (H1 5 6) (H1 5 7) (H1 5 8) (H1 5 9) (H1 5 10) (H1 5 11), k_Places g a (o+22) (H1 6 0) (H1 7) (H1 8) (H1 9) (H1 10) (H1 11), k_StO g a (o+28), k_Sheet g a (o+29) (H2 0 0) (H2 1) (H2 2) (H2 3) (H2 4), k_Settings g a (o+34) (H2 5 0) (H2 5 1) (H2 5 2) (H2 5 3) (H2 5 4) (H2 5 5) (H2 5 6) (H2 5 7) (H2 5 8) (H2 5 9) (H2 5 10) (H2 5 11), k_Places g a (o+35) (H2 6 0) (H2 7) (H2 8) (H2 9) (H2 10) (H2 11), k_StO g a (o+41), k_Sheet g a (o+42) (H3 0 0) (H3 1) (H3 2) (H3 3) (H3 4), k_Settings g a (o+47) (H3 5 0) (H3 5 1) (H3 5 2) (H3 5 3) (H3 5 4) (H3 5 5) (H3 5 6) (H3 5 7) (H3 5 8) (H3 5 9) (H3 5 10) (H3 5 11), k_Places g a (o+48) (H3 6 0) (H3 7) (H3 8) (H3 9) (H3 10) (H3 11), k_StO g a (o+54), k_Sheet g a (o+55) (H4 0 0) (H4 1) (H4 2) (H4 3) (H4 4), k_Settings g a (o+60) (H4 5 0) (H4 5 1) (H4 5 2) (H4 5 3) (H4 5 4) (H4 5 5) (H4 5 6) (H4 5 7) (H4 5 8) (H4 5 9) (H4 5 10) (H4 5 11), k_Places g a (o+61) (H4 6 0) (H4 7) (H4 8) (H4 9) (H4 10) (H4 11), k_StO g a1 o1, k_Sheet g a1 (o1+1) (r13 0 0) (r13 1) (r13 2) (r13 3) (r13 4), k_Settings g a1 (o1+6) (r13 5 0) (r13 5 1) (r13 5 2) (r13 5 3) (r13 5 4) (r13 5 5) (r13 5 6) (r13 5 7) (r13 5 8) (r13 5 9) (r13 5 10) (r13 5 11), k_Places g a1 (o1+7) (r13 6 0) (r13 7) (r13 8) (r13 9) (r13 10) (r13 11)]) rfl dX2_takeBack_33 (fun H locs hw => ?_)
              refine lv_aload_n hx hb dX2_takeBack_36 rfl (lv_at hl 1 rfl) ?_
              refine lv_aload_n hx hb dX2_takeBack_37 rfl (lv_at hl 1 rfl) ?_
              refine b_get hx hb hT hK hown fl_X2_18 hw 0 0 rfl rfl (v := .int hLatest) rfl dX2_takeBack_38 ?_
              refine lv_iconst (v := 5) hx hb dX2_takeBack_41 (by decide) ?_
              refine lv_iadd hx hb dX2_takeBack_42 ?_
              refine lv_iconst (v := 1) hx hb dX2_takeBack_43 (by decide) ?_
              refine lv_isub hx hb dX2_takeBack_44 ?_
              refine lv_iconst (v := 5) hx hb dX2_takeBack_45 (by decide) ?_
              refine g_irem hx hb dX2_takeBack_46 (by decide) ?_
              obtain ⟨x15, ex15, h⟩ := g_bd_nm h
              refine g_topi ex15 ?_
              refine b_putf hx hb hT hK hown fl_X2_18 ft_X2 hw 0 0 rfl rfl rfl rfl rfl (Nat.le_of_ble_eq_true rfl) rfl (wb' := [k_Hist g a o x15 x14, k_StO g a (o+2), k_Sheet g a (o+3) (H0 0 0) (H0 1) (H0 2) (H0 3) (H0 4), k_Settings g a (o+8) (H0 5 0) (H0 5 1) (H0 5 2) (H0 5 3) (H0 5 4) (H0 5 5) (H0 5 6) (H0 5 7) (H0 5 8) (H0 5 9) (H0 5 10) (H0 5 11), k_Places g a (o+9) (H0 6 0) (H0 7) (H0 8) (H0 9) (H0 10) (H0 11), k_StO g a (o+15), k_Sheet g a (o+16) (H1 0 0) (H1 1) (H1 2) (H1 3) (H1 4), k_Settings g a (o+21) (H1 5 0) (H1 5 1) (H1 5 2) (H1 5 3) (H1 5 4) (H1 5 5) (H1 5 6) (H1 5 7) (H1 5 8) (H1 5 9) (H1 5 10) (H1 5 11), k_Places g a (o+22) (H1 6 0) (H1 7) (H1 8) (H1 9) (H1 10) (H1 11), k_StO g a (o+28), k_Sheet g a (o+29) (H2 0 0) (H2 1) (H2 2) (H2 3) (H2 4), k_Settings g a (o+34) (H2 5 0) (H2 5 1) (H2 5 2) (H2 5 3) (H2 5 4) (H2 5 5) (H2 5 6) (H2 5 7) (H2 5 8) (H2 5 9) (H2 5 10) (H2 5 11), k_Places g a (o+35) (H2 6 0) (H2 7) (H2 8) (H2 9) (H2 10) (H2 11), k_StO g a (o+41), k_Sheet g a (o+42) (H3 0 0) (H3 1) (H3 2) (H3 3) (H3 4), k_Settings g a (o+47) (H3 5 0) (H3 5 1) (H3 5 2) (H3 5 3) (H3 5 4) (H3 5 5) (H3 5 6) (H3 5 7) (H3 5 8) (H3 5 9) (H3 5 10) (H3 5 11), k_Places g a (o+48) (H3 6 0) (H3 7) (H3 8) (H3 9) (H3 10) (H3 11), k_StO g a (o+54), k_Sheet g a (o+55) (H4 0 0) (H4 1) (H4 2) (H4 3) (H4 4), k_Settings g a (o+60) (H4 5 0) (H4 5 1) (H4 5 2) (H4 5 3) (H4 5 4) (H4 5 5) (H4 5 6) (H4 5 7) (H4 5 8) (H4 5 9) (H4 5 10) (H4 5 11), k_Places g a (o+61) (H4 6 0) (H4 7) (H4 8) (H4 9) (H4 10) (H4 11), k_StO g a1 o1, k_Sheet g a1 (o1+1) (r13 0 0) (r13 1) (r13 2) (r13 3) (r13 4), k_Settings g a1 (o1+6) (r13 5 0) (r13 5 1) (r13 5 2) (r13 5 3) (r13 5 4) (r13 5 5) (r13 5 6) (r13 5 7) (r13 5 8) (r13 5 9) (r13 5 10) (r13 5 11), k_Places g a1 (o1+7) (r13 6 0) (r13 7) (r13 8) (r13 9) (r13 10) (r13 11)]) rfl dX2_takeBack_47 (fun H locs hw => ?_)
              obtain rfl := Option.some.inj h
              exact b_vret hQ hx hb hr hlk hw rfl dX2_takeBack_50
          · rw [if_neg hc8_4] at h
            cases h
set_option maxRecDepth 100000 in
set_option maxHeartbeats 4000000 in
theorem c_J7_fill_53178 (l : Launch) (D : va_G) (g : Nat → ClassId) (a1 : Nat) (n_p0 : Nat) (arr : (Nat → Int32)) (i1 : Int32) (u : (Nat → Int32)) (h : f_J7_fill_53178 n_p0 arr i1 = some u) : b_Ct l yJ7_fill_53178 cJ7_fill_53178 4 none 0 0 D g [.ref a1, .int i1] [k_ArrI g a1 n_p0 arr] [k_ArrI g a1 n_p0 u] none := by
  refine b_start RJ7 (by decide) rfl (Nat.le_of_ble_eq_true rfl) rfl ?_
  intro p e s m args below meth c A ls Q hQ hx hb hr hlk hml hown hT hK hA hw hl
  have hl : lv_has ls 4 [(0, .ref a1), (1, .int i1)] := hl
  unfold f_J7_fill_53178 at h
  refine lv_iconst (v := 0) hx hb dJ7_fill_53178_0 (by decide) ?_
  refine lv_istore_n (lv' := [(2, .int (0 : Int32)), (0, .ref a1), (1, .int i1)]) hx hb dJ7_fill_53178_1 rfl hl (by decide) rfl (fun ls hl => ?_)
  refine lv_aload_n hx hb dJ7_fill_53178_2 rfl (lv_at hl 1 rfl) ?_
  refine b_alen hx hb hK hw 0 0 0 rfl rfl rfl (v := (Int32.ofNat n_p0)) rfl dJ7_fill_53178_3 ?_
  refine lv_istore_n (lv' := [(3, .int (Int32.ofNat n_p0)), (2, .int (0 : Int32)), (0, .ref a1), (1, .int i1)]) hx hb dJ7_fill_53178_4 rfl hl (by decide) rfl (fun ls hl => ?_)
  have hL5 : ∀ (n : Nat) (x1 : Int32) (f2 : Nat → Int32) (H : Heap) (locs : List Loc) (ls : Array Slot), b_Wd D A s.heap H locs [k_ArrI g a1 n_p0 f2] → lv_has ls 4 [(0, .ref a1), (1, .int i1), (2, .int x1), (3, .int (Int32.ofNat n_p0))] → f_J7_fill_53178_L5 n_p0 i1 n x1 f2 = some u → W p l e (g_rm 0 0) s m args below meth c H locs 0 0 Q (F0 m 5 ls []) := by
    intro n
    induction n with
    | zero =>
      intro x1 f2 H locs ls hw hl h
      cases (show none = some u from h)
    | succ n ih5 =>
      intro x1 f2 H locs ls hw hl h
      rw [f_J7_fill_53178_L5] at h
      refine lv_iload_n hx hb dJ7_fill_53178_5 rfl (lv_at hl 2 rfl) ?_
      refine lv_iload_n hx hb dJ7_fill_53178_6 rfl (lv_at hl 3 rfl) ?_
      refine lv_icmp_ge (tgt := 20) hx hb dJ7_fill_53178_7 (by decide) (fun hc7 => ?_) (fun hc7 => ?_)
      · rw [if_pos hc7] at h
        obtain rfl := Option.some.inj h
        exact b_vret hQ hx hb hr hlk hw rfl dJ7_fill_53178_20
      · rw [if_neg hc7] at h
        refine lv_aload_n hx hb dJ7_fill_53178_10 rfl (lv_at hl 0 rfl) ?_
        refine lv_iload_n hx hb dJ7_fill_53178_11 rfl (lv_at hl 2 rfl) ?_
        refine lv_iload_n hx hb dJ7_fill_53178_12 rfl (lv_at hl 1 rfl) ?_
        obtain ⟨f3, ef3, hif3, h⟩ := g_wr_some h
        refine b_iast hx hb hK hw 0 0 rfl (f := f2) rfl hif3 ef3 rfl (wb' := [k_ArrI g a1 n_p0 f3]) rfl dJ7_fill_53178_13 (fun H locs hw => ?_)
        obtain ⟨x4, ex4, h⟩ := g_bd_nm h
        refine lv_iinc (v := x4) (lv' := [(2, .int x4), (0, .ref a1), (1, .int i1), (3, .int (Int32.ofNat n_p0))]) hx hb dJ7_fill_53178_14 hl (k := 2) rfl (by rw [ex4]; rfl) (by decide) rfl (fun ls hl => ?_)
        refine lv_goto (tgt := 5) hx hb dJ7_fill_53178_17 (by decide) ?_
        exact ih5 x4 f3 _ _ _ hw (lv_sub hl [1, 2, 0, 3] rfl) h
  exact hL5 g_fuel (0 : Int32) arr _ _ _ hw (lv_sub hl [2, 3, 1, 0] rfl) h
set_option maxRecDepth 100000 in
set_option maxHeartbeats 4000000 in
theorem c_X4_removeAll (l : Launch) (D : va_G) (g : Nat → ClassId) (a : Nat → Nat) (o : Nat) (pageCount : Int32) (pageGroups : (Nat → Int32)) (pages : (Nat → Int32)) (columns : (Nat → Int32)) (rowsP : (Nat → Int32)) (turned : (Nat → Int32)) (u : Int32 × (Nat → Int32)) (h : f_X4_removeAll pages = some u) : b_Ct l yX4_removeAll cX4_removeAll 1 none 1 23 D g [.ref (a o)] [k_Places g a o pageCount pageGroups pages columns rowsP turned] [k_Places g a o u.1 pageGroups u.2 columns rowsP turned] none := by
  refine b_start RX4 (by decide) rfl (Nat.le_of_ble_eq_true rfl) rfl ?_
  intro p e s m args below meth c A ls Q hQ hx hb hr hlk hml hown hT hK hA hw hl
  have hl : lv_has ls 1 [(0, .ref (a o))] := hl
  unfold f_X4_removeAll at h
  refine lv_aload_n hx hb dX4_removeAll_0 rfl (lv_at hl 0 rfl) ?_
  refine lv_iconst (v := 0) hx hb dX4_removeAll_1 (by decide) ?_
  refine b_putf hx hb hT hK hown fl_X4_34 ft_X4 hw 0 0 rfl rfl rfl rfl rfl (Nat.le_of_ble_eq_true rfl) rfl (wb' := [k_Places g a o (0 : Int32) pageGroups pages columns rowsP turned]) rfl dX4_removeAll_2 (fun H locs hw => ?_)
  refine lv_aload_n hx hb dX4_removeAll_5 rfl (lv_at hl 0 rfl) ?_
  refine b_get hx hb hT hK hown fl_X4_15 hw 0 0 rfl rfl (v := .ref (a (o+2))) rfl dX4_removeAll_6 ?_
  refine lv_bipush (v := -4) hx hb dX4_removeAll_9 (by decide) ?_
  obtain ⟨r1, er1, h⟩ := g_cl_some h
  refine b_callA hx hb hml hown hT hK hA hw mk_X4_28 (c_J7_fill_53178 l D g (a (o+2)) 24 pages (-4 : Int32) r1 er1) 0 2 rfl rfl rfl hl.1 [] rfl (Nat.le_of_ble_eq_true rfl) ⟨Nat.le_of_ble_eq_true rfl, Nat.le_of_ble_eq_true rfl⟩ ⟨Nat.zero_le _, Nat.zero_le _⟩ dX4_removeAll_11 rfl (wb' := [k_Places g a o (0 : Int32) pageGroups r1 columns rowsP turned]) rfl (st2 := []) rfl (fun H locs hw => ?_)
  obtain rfl := Option.some.inj h
  exact b_vret hQ hx hb hr hlk hw rfl dX4_removeAll_14
set_option maxRecDepth 100000 in
set_option maxHeartbeats 4000000 in
theorem c_X3_rankOf (l : Launch) (D : va_G) (g : Nat → ClassId) (a : Nat → Nat) (o : Nat) (aS : Nat → Nat) (oS : Nat) (aC : Nat → Nat) (oC : Nat) (S : Nat → Nat → Int32) (lefts : (Nat → Int32)) (tops : (Nat → Int32)) (cwidths : (Nat → Int32)) (cheights : (Nat → Int32)) (originals : (Nat → Int32)) (orients : (Nat → Int32)) (i1 : Int32) (u : Int32) (h : f_X3_rankOf S cwidths cheights i1 = some u) : b_Ct l yX3_rankOf cX3_rankOf 4 (some .int) 1 14 D g [.ref (a o), .int i1] [k_PkO g a o (aS oS) (aC oC), k_StO g aS oS, k_Settings g aS (oS+6) (S 5 0) (S 5 1) (S 5 2) (S 5 3) (S 5 4) (S 5 5) (S 5 6) (S 5 7) (S 5 8) (S 5 9) (S 5 10) (S 5 11), k_Catalog g aC oC lefts tops cwidths cheights originals orients] [k_PkO g a o (aS oS) (aC oC), k_StO g aS oS, k_Settings g aS (oS+6) (S 5 0) (S 5 1) (S 5 2) (S 5 3) (S 5 4) (S 5 5) (S 5 6) (S 5 7) (S 5 8) (S 5 9) (S 5 10) (S 5 11), k_Catalog g aC oC lefts tops cwidths cheights originals orients] (some (.int u)) := by
  refine b_start RX3 (by decide) rfl (Nat.le_of_ble_eq_true rfl) rfl ?_
  intro p e s m args below meth c A ls Q hQ hx hb hr hlk hml hown hT hK hA hw hl
  have hl : lv_has ls 4 [(0, .ref (a o)), (1, .int i1)] := hl
  unfold f_X3_rankOf at h
  refine lv_aload_n hx hb dX3_rankOf_0 rfl (lv_at hl 0 rfl) ?_
  refine b_get hx hb hT hK hown fl_X3_33 hw 0 0 rfl rfl (v := .ref (aC oC)) rfl dX3_rankOf_1 ?_
  refine b_get hx hb hT hK hown fl_X3_191 hw 3 0 rfl rfl (v := .ref (aC (oC+3))) rfl dX3_rankOf_4 ?_
  refine lv_iload_n hx hb dX3_rankOf_7 rfl (lv_at hl 1 rfl) ?_
  obtain ⟨x1, ex1, hix1, h⟩ := g_rd_some h
  refine b_iald hx hb hK hw 3 3 rfl (f := cwidths) rfl hix1 ex1 dX3_rankOf_8 ?_
  refine lv_istore_n (lv' := [(2, .int x1), (0, .ref (a o)), (1, .int i1)]) hx hb dX3_rankOf_9 rfl hl (by decide) rfl (fun ls hl => ?_)
  refine lv_aload_n hx hb dX3_rankOf_10 rfl (lv_at hl 1 rfl) ?_
  refine b_get hx hb hT hK hown fl_X3_33 hw 0 0 rfl rfl (v := .ref (aC oC)) rfl dX3_rankOf_11 ?_
  refine b_get hx hb hT hK hown fl_X3_194 hw 3 0 rfl rfl (v := .ref (aC (oC+4))) rfl dX3_rankOf_14 ?_
  refine lv_iload_n hx hb dX3_rankOf_17 rfl (lv_at hl 2 rfl) ?_
  obtain ⟨x2, ex2, hix2, h⟩ := g_rd_some h
  refine b_iald hx hb hK hw 3 4 rfl (f := cheights) rfl hix2 ex2 dX3_rankOf_18 ?_
  refine lv_istore_n (lv' := [(3, .int x2), (2, .int x1), (0, .ref (a o)), (1, .int i1)]) hx hb dX3_rankOf_19 rfl hl (by decide) rfl (fun ls hl => ?_)
  refine lv_aload_n hx hb dX3_rankOf_20 rfl (lv_at hl 2 rfl) ?_
  refine b_get hx hb hT hK hown fl_X3_29 hw 0 0 rfl rfl (v := .ref (aS oS)) rfl dX3_rankOf_21 ?_
  refine b_get hx hb hT hK hown fl_X3_71 hw 1 0 rfl rfl (v := .ref (aS (oS+6))) rfl dX3_rankOf_24 ?_
  refine b_get hx hb hT hK hown fl_X3_203 hw 2 0 rfl rfl (v := .int (S 5 10)) rfl dX3_rankOf_27 ?_
  by_cases hc30_1 : (S 5 10) = 1
  · rw [if_pos hc30_1] at h
    refine lv_tableIn (tgt := 56) hx hb dX3_rankOf_30 (by rw [hc30_1]; decide) (by rw [hc30_1]; decide) (by rw [hc30_1]; rfl) (by decide) ?_
    refine lv_iload_n hx hb dX3_rankOf_56 rfl (lv_at hl 1 rfl) ?_
    refine lv_iload_n hx hb dX3_rankOf_57 rfl (lv_at hl 0 rfl) ?_
    refine lv_imul hx hb dX3_rankOf_58 ?_
    obtain rfl := Option.some.inj h
    exact b_iret hQ hx hb hr hlk hw rfl dX3_rankOf_59
  · rw [if_neg hc30_1] at h
    by_cases hc30_2 : (S 5 10) = 2
    · rw [if_pos hc30_2] at h
      refine lv_tableIn (tgt := 60) hx hb dX3_rankOf_30 (by rw [hc30_2]; decide) (by rw [hc30_2]; decide) (by rw [hc30_2]; rfl) (by decide) ?_
      refine lv_bipush (v := 10) hx hb dX3_rankOf_60 (by decide) ?_
      refine lv_iload_n hx hb dX3_rankOf_62 rfl (lv_at hl 1 rfl) ?_
      refine lv_iload_n hx hb dX3_rankOf_63 rfl (lv_at hl 0 rfl) ?_
      refine g_mmax hx hb hml hl.1 hown hT mm_X3_101 (Nat.le_of_ble_eq_true rfl) (Nat.le_of_ble_eq_true rfl) (Nat.zero_le _) (Nat.zero_le _) dX3_rankOf_64 ?_
      refine lv_imul hx hb dX3_rankOf_67 ?_
      refine lv_iload_n hx hb dX3_rankOf_68 rfl (lv_at hl 1 rfl) ?_
      refine lv_iload_n hx hb dX3_rankOf_69 rfl (lv_at hl 0 rfl) ?_
      refine g_mmin hx hb hml hl.1 hown hT mm_X3_182 (Nat.le_of_ble_eq_true rfl) (Nat.le_of_ble_eq_true rfl) (Nat.zero_le _) (Nat.zero_le _) dX3_rankOf_70 ?_
      refine lv_iadd hx hb dX3_rankOf_73 ?_
      obtain rfl := Option.some.inj h
      exact b_iret hQ hx hb hr hlk hw rfl dX3_rankOf_74
    · rw [if_neg hc30_2] at h
      by_cases hc30_3 : (S 5 10) = 3
      · rw [if_pos hc30_3] at h
        refine lv_tableIn (tgt := 75) hx hb dX3_rankOf_30 (by rw [hc30_3]; decide) (by rw [hc30_3]; decide) (by rw [hc30_3]; rfl) (by decide) ?_
        refine lv_bipush (v := 10) hx hb dX3_rankOf_75 (by decide) ?_
        refine lv_iload_n hx hb dX3_rankOf_77 rfl (lv_at hl 0 rfl) ?_
        refine lv_imul hx hb dX3_rankOf_78 ?_
        refine lv_iload_n hx hb dX3_rankOf_79 rfl (lv_at hl 1 rfl) ?_
        refine lv_iadd hx hb dX3_rankOf_80 ?_
        obtain rfl := Option.some.inj h
        exact b_iret hQ hx hb hr hlk hw rfl dX3_rankOf_81
      · rw [if_neg hc30_3] at h
        refine lv_tableOut (tgt := 82) hx hb dX3_rankOf_30 (g_swout 1 3 (by decide) (by decide) (fun k h1 h2 => by rcases (show k = 1 ∨ k = 2 ∨ k = 3 by omega) with rfl | rfl | rfl <;> first | exact hc30_1 | exact hc30_2 | exact hc30_3)) (by decide) ?_
        refine lv_iconst (v := 0) hx hb dX3_rankOf_82 (by decide) ?_
        obtain rfl := Option.some.inj h
        exact b_iret hQ hx hb hr hlk hw rfl dX3_rankOf_83
