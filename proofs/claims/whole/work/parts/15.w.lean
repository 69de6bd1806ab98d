set_option maxRecDepth 100000 in
set_option maxHeartbeats 4000000 in
theorem c_X2_takeBack (l : Launch) (D : va_G) (g : Nat → ClassId) (a : Nat → Nat) (o : Nat) (a1 : Nat → Nat) (o1 : Nat) (hLatest : Int32) (hCount : Int32) (H0 : Nat → Nat → Int32) (H1 : Nat → Nat → Int32) (H2 : Nat → Nat → Int32) (H3 : Nat → Nat → Int32) (H4 : Nat → Nat → Int32) (S2 : Nat → Nat → Int32) (u : Int32 × Int32 × (Nat → Nat → Int32)) (h : f_X2_takeBack hLatest hCount H0 H1 H2 H3 H4 S2 = some u) : g_Ct l yX2_takeBack cX2_takeBack 3 none 3 60 D g [.ref (a o), .ref (a1 o1)] (k_Hist g a o hLatest hCount ++ (k_State g a (o+2) H0 ++ (k_State g a (o+15) H1 ++ (k_State g a (o+28) H2 ++ (k_State g a (o+41) H3 ++ (k_State g a (o+54) H4 ++ (k_State g a1 o1 S2))))))) (k_Hist g a o u.1 u.2.1 ++ (k_State g a (o+2) H0 ++ (k_State g a (o+15) H1 ++ (k_State g a (o+28) H2 ++ (k_State g a (o+41) H3 ++ (k_State g a (o+54) H4 ++ (k_State g a1 o1 u.2.2))))))) none := by
  refine g_start RX2 (by decide) rfl (Nat.le_of_ble_eq_true rfl) rfl ?_
  intro p e s m args below meth c A ls Q hQ hx hb hr hlk hml hown hT hK hA hw hl
  have hl : lv_has ls 3 [(0, .ref (a o)), (1, .ref (a1 o1))] := hl
  unfold f_X2_takeBack at h
  refine lv_aload_n hx hb dX2_takeBack_0 rfl (lv_at hl 0 rfl) ?_
  refine g_get hx hb hT hK hown fl_X2_11 hw 0 rfl (v := .ref (a (o+1))) rfl dX2_takeBack_1 ?_
  refine lv_aload_n hx hb dX2_takeBack_4 rfl (lv_at hl 0 rfl) ?_
  refine g_get hx hb hT hK hown fl_X2_18 hw 0 rfl (v := .int hLatest) rfl dX2_takeBack_5 ?_
  by_cases hc8_0 : hLatest = 0
  · rw [if_pos hc8_0] at h
    refine g_aald hx hb hK hw 1 rfl (x := (a (o+2))) (by rw [hc8_0]; exact (show ¬ ((0 : Int32) < 0 ∨ 5 ≤ (0 : Int32).toNatClampNeg) by decide)) (by rw [hc8_0, show (0 : Int32).toNatClampNeg = 0 by decide]; rfl) dX2_takeBack_8 ?_
    refine lv_astore_n (lv' := [(2, .ref (a (o+2))), (0, .ref (a o)), (1, .ref (a1 o1))]) hx hb dX2_takeBack_9 rfl hl (by decide) rfl (fun ls hl => ?_)
    refine lv_aload_n hx hb dX2_takeBack_10 rfl (lv_at hl 1 rfl) ?_
    refine g_get hx hb hT hK hown fl_X2_26 hw 0 rfl (v := .int hCount) rfl dX2_takeBack_11 ?_
    refine lv_if_le (tgt := 50) hx hb dX2_takeBack_14 (by decide) (fun hc14 => ?_) (fun hc14 => ?_)
    · rw [if_pos hc14] at h
      obtain rfl := Option.some.inj h
      exact g_vret hQ hx hb hr hlk hw rfl dX2_takeBack_50
    · rw [if_neg hc14] at h
      refine lv_aload_n hx hb dX2_takeBack_17 rfl (lv_at hl 0 rfl) ?_
      refine lv_ifnull hx hb dX2_takeBack_18 ?_
      refine lv_aload_n hx hb dX2_takeBack_21 rfl (lv_at hl 2 rfl) ?_
      refine lv_aload_n hx hb dX2_takeBack_22 rfl (lv_at hl 0 rfl) ?_
      obtain ⟨r1, er1, h⟩ := g_cl_some h
      refine g_callV hx hb hml hown hT hK hA hw mk_X2_22 (c_X8_copyFrom l D g a1 o1 a (o+2) S2 H0 r1 er1) [67, 68, 69, 70, 71, 72, 73, 74, 75, 76, 77, 78, 79, 2, 3, 4, 5, 6, 7, 8, 9, 10, 11, 12, 13, 14] rfl (by decide) 67 rfl rfl rfl hl.1 [] rfl (Nat.le_of_ble_eq_true rfl) ⟨Nat.le_of_ble_eq_true rfl, Nat.le_of_ble_eq_true rfl⟩ ⟨Nat.zero_le _, Nat.zero_le _⟩ dX2_takeBack_23 (ws' := (k_Hist g a o hLatest hCount ++ (k_State g a (o+2) H0 ++ (k_State g a (o+15) H1 ++ (k_State g a (o+28) H2 ++ (k_State g a (o+41) H3 ++ (k_State g a (o+54) H4 ++ (k_State g a1 o1 r1)))))))) rfl (st2 := []) rfl (fun H locs hw => ?_)
      refine lv_aload_n hx hb dX2_takeBack_26 rfl (lv_at hl 1 rfl) ?_
      refine lv_dup hx hb dX2_takeBack_27 rfl ?_
      refine g_get hx hb hT hK hown fl_X2_26 hw 0 rfl (v := .int hCount) rfl dX2_takeBack_28 ?_
      refine lv_iconst (v := 1) hx hb dX2_takeBack_31 (by decide) ?_
      refine lv_isub hx hb dX2_takeBack_32 ?_
      obtain ⟨x2, ex2, h⟩ := g_bd_nm h
      refine g_topi ex2 ?_
      refine g_putf hx hb hT hK hown fl_X2_26 ft_X2 hw 0 rfl rfl rfl rfl (Nat.le_of_ble_eq_true rfl) (ws' := (k_Hist g a o hLatest x2 ++ (k_State g a (o+2) H0 ++ (k_State g a (o+15) H1 ++ (k_State g a (o+28) H2 ++ (k_State g a (o+41) H3 ++ (k_State g a (o+54) H4 ++ (k_State g a1 o1 r1)))))))) rfl dX2_takeBack_33 (fun H locs hw => ?_)
      refine lv_aload_n hx hb dX2_takeBack_36 rfl (lv_at hl 1 rfl) ?_
      refine lv_aload_n hx hb dX2_takeBack_37 rfl (lv_at hl 1 rfl) ?_
      refine g_get hx hb hT hK hown fl_X2_18 hw 0 rfl (v := .int hLatest) rfl dX2_takeBack_38 ?_
      refine lv_iconst (v := 5) hx hb dX2_takeBack_41 (by decide) ?_
      refine lv_iadd hx hb dX2_takeBack_42 ?_
      refine lv_iconst (v := 1) hx hb dX2_takeBack_43 (by decide) ?_
      refine lv_isub hx hb dX2_takeBack_44 ?_
      refine lv_iconst (v := 5) hx hb dX2_takeBack_45 (by decide) ?_
      refine g_irem hx hb dX2_takeBack_46 (by decide) ?_
      obtain ⟨x3, ex3, h⟩ := g_bd_nm h
      refine g_topi ex3 ?_
      refine g_putf hx hb hT hK hown fl_X2_18 ft_X2 hw 0 rfl rfl rfl rfl (Nat.le_of_ble_eq_true rfl) (ws' := (k_Hist g a o x3 x2 ++ (k_State g a (o+2) H0 ++ (k_State g a (o+15) H1 ++ (k_State g a (o+28) H2 ++ (k_State g a (o+41) H3 ++ (k_State g a (o+54) H4 ++ (k_State g a1 o1 r1)))))))) rfl dX2_takeBack_47 (fun H locs hw => ?_)
      obtain rfl := Option.some.inj h
      exact g_vret hQ hx hb hr hlk hw rfl dX2_takeBack_50
  · rw [if_neg hc8_0] at h
    by_cases hc8_1 : hLatest = 1
    · rw [if_pos hc8_1] at h
      refine g_aald hx hb hK hw 1 rfl (x := (a (o+15))) (by rw [hc8_1]; exact (show ¬ ((1 : Int32) < 0 ∨ 5 ≤ (1 : Int32).toNatClampNeg) by decide)) (by rw [hc8_1, show (1 : Int32).toNatClampNeg = 1 by decide]; rfl) dX2_takeBack_8 ?_
      refine lv_astore_n (lv' := [(2, .ref (a (o+15))), (0, .ref (a o)), (1, .ref (a1 o1))]) hx hb dX2_takeBack_9 rfl hl (by decide) rfl (fun ls hl => ?_)
      refine lv_aload_n hx hb dX2_takeBack_10 rfl (lv_at hl 1 rfl) ?_
      refine g_get hx hb hT hK hown fl_X2_26 hw 0 rfl (v := .int hCount) rfl dX2_takeBack_11 ?_
      refine lv_if_le (tgt := 50) hx hb dX2_takeBack_14 (by decide) (fun hc14 => ?_) (fun hc14 => ?_)
      · rw [if_pos hc14] at h
        obtain rfl := Option.some.inj h
        exact g_vret hQ hx hb hr hlk hw rfl dX2_takeBack_50
      · rw [if_neg hc14] at h
        refine lv_aload_n hx hb dX2_takeBack_17 rfl (lv_at hl 0 rfl) ?_
        refine lv_ifnull hx hb dX2_takeBack_18 ?_
        refine lv_aload_n hx hb dX2_takeBack_21 rfl (lv_at hl 2 rfl) ?_
        refine lv_aload_n hx hb dX2_takeBack_22 rfl (lv_at hl 0 rfl) ?_
        obtain ⟨r4, er4, h⟩ := g_cl_some h
        refine g_callV hx hb hml hown hT hK hA hw mk_X2_22 (c_X8_copyFrom l D g a1 o1 a (o+15) S2 H1 r4 er4) [67, 68, 69, 70, 71, 72, 73, 74, 75, 76, 77, 78, 79, 15, 16, 17, 18, 19, 20, 21, 22, 23, 24, 25, 26, 27] rfl (by decide) 67 rfl rfl rfl hl.1 [] rfl (Nat.le_of_ble_eq_true rfl) ⟨Nat.le_of_ble_eq_true rfl, Nat.le_of_ble_eq_true rfl⟩ ⟨Nat.zero_le _, Nat.zero_le _⟩ dX2_takeBack_23 (ws' := (k_Hist g a o hLatest hCount ++ (k_State g a (o+2) H0 ++ (k_State g a (o+15) H1 ++ (k_State g a (o+28) H2 ++ (k_State g a (o+41) H3 ++ (k_State g a (o+54) H4 ++ (k_State g a1 o1 r4)))))))) rfl (st2 := []) rfl (fun H locs hw => ?_)
        refine lv_aload_n hx hb dX2_takeBack_26 rfl (lv_at hl 1 rfl) ?_
        refine lv_dup hx hb dX2_takeBack_27 rfl ?_
        refine g_get hx hb hT hK hown fl_X2_26 hw 0 rfl (v := .int hCount) rfl dX2_takeBack_28 ?_
        refine lv_iconst (v := 1) hx hb dX2_takeBack_31 (by decide) ?_
        refine lv_isub hx hb dX2_takeBack_32 ?_
        obtain ⟨x5, ex5, h⟩ := g_bd_nm h
        refine g_topi ex5 ?_
        refine g_putf hx hb hT hK hown fl_X2_26 ft_X2 hw 0 rfl rfl rfl rfl (Nat.le_of_ble_eq_true rfl) (ws' := (k_Hist g a o hLatest x5 ++ (k_State g a (o+2) H0 ++ (k_State g a (o+15) H1 ++ (k_State g a (o+28) H2 ++ (k_State g a (o+41) H3 ++ (k_State g a (o+54) H4 ++ (k_State g a1 o1 r4)))))))) rfl dX2_takeBack_33 (fun H locs hw => ?_)
        refine lv_aload_n hx hb dX2_takeBack_36 rfl (lv_at hl 1 rfl) ?_
        refine lv_aload_n hx hb dX2_takeBack_37 rfl (lv_at hl 1 rfl) ?_
        refine g_get hx hb hT hK hown fl_X2_18 hw 0 rfl (v := .int hLatest) rfl dX2_takeBack_38 ?_
        refine lv_iconst (v := 5) hx hb dX2_takeBack_41 (by decide) ?_
        refine lv_iadd hx hb dX2_takeBack_42 ?_
        refine lv_iconst (v := 1) hx hb dX2_takeBack_43 (by decide) ?_
        refine lv_isub hx hb dX2_takeBack_44 ?_
        refine lv_iconst (v := 5) hx hb dX2_takeBack_45 (by decide) ?_
        refine g_irem hx hb dX2_takeBack_46 (by decide) ?_
        obtain ⟨x6, ex6, h⟩ := g_bd_nm h
        refine g_topi ex6 ?_
        refine g_putf hx hb hT hK hown fl_X2_18 ft_X2 hw 0 rfl rfl rfl rfl (Nat.le_of_ble_eq_true rfl) (ws' := (k_Hist g a o x6 x5 ++ (k_State g a (o+2) H0 ++ (k_State g a (o+15) H1 ++ (k_State g a (o+28) H2 ++ (k_State g a (o+41) H3 ++ (k_State g a (o+54) H4 ++ (k_State g a1 o1 r4)))))))) rfl dX2_takeBack_47 (fun H locs hw => ?_)
        obtain rfl := Option.some.inj h
        exact g_vret hQ hx hb hr hlk hw rfl dX2_takeBack_50
    · rw [if_neg hc8_1] at h
      by_cases hc8_2 : hLatest = 2
      · rw [if_pos hc8_2] at h
        refine g_aald hx hb hK hw 1 rfl (x := (a (o+28))) (by rw [hc8_2]; exact (show ¬ ((2 : Int32) < 0 ∨ 5 ≤ (2 : Int32).toNatClampNeg) by decide)) (by rw [hc8_2, show (2 : Int32).toNatClampNeg = 2 by decide]; rfl) dX2_takeBack_8 ?_
        refine lv_astore_n (lv' := [(2, .ref (a (o+28))), (0, .ref (a o)), (1, .ref (a1 o1))]) hx hb dX2_takeBack_9 rfl hl (by decide) rfl (fun ls hl => ?_)
        refine lv_aload_n hx hb dX2_takeBack_10 rfl (lv_at hl 1 rfl) ?_
        refine g_get hx hb hT hK hown fl_X2_26 hw 0 rfl (v := .int hCount) rfl dX2_takeBack_11 ?_
        refine lv_if_le (tgt := 50) hx hb dX2_takeBack_14 (by decide) (fun hc14 => ?_) (fun hc14 => ?_)
        · rw [if_pos hc14] at h
          obtain rfl := Option.some.inj h
          exact g_vret hQ hx hb hr hlk hw rfl dX2_takeBack_50
        · rw [if_neg hc14] at h
          refine lv_aload_n hx hb dX2_takeBack_17 rfl (lv_at hl 0 rfl) ?_
          refine lv_ifnull hx hb dX2_takeBack_18 ?_
          refine lv_aload_n hx hb dX2_takeBack_21 rfl (lv_at hl 2 rfl) ?_
          refine lv_aload_n hx hb dX2_takeBack_22 rfl (lv_at hl 0 rfl) ?_
          obtain ⟨r7, er7, h⟩ := g_cl_some h
          refine g_callV hx hb hml hown hT hK hA hw mk_X2_22 (c_X8_copyFrom l D g a1 o1 a (o+28) S2 H2 r7 er7) [67, 68, 69, 70, 71, 72, 73, 74, 75, 76, 77, 78, 79, 28, 29, 30, 31, 32, 33, 34, 35, 36, 37, 38, 39, 40] rfl (by decide) 67 rfl rfl rfl hl.1 [] rfl (Nat.le_of_ble_eq_true rfl) ⟨Nat.le_of_ble_eq_true rfl, Nat.le_of_ble_eq_true rfl⟩ ⟨Nat.zero_le _, Nat.zero_le _⟩ dX2_takeBack_23 (ws' := (k_Hist g a o hLatest hCount ++ (k_State g a (o+2) H0 ++ (k_State g a (o+15) H1 ++ (k_State g a (o+28) H2 ++ (k_State g a (o+41) H3 ++ (k_State g a (o+54) H4 ++ (k_State g a1 o1 r7)))))))) rfl (st2 := []) rfl (fun H locs hw => ?_)
          refine lv_aload_n hx hb dX2_takeBack_26 rfl (lv_at hl 1 rfl) ?_
          refine lv_dup hx hb dX2_takeBack_27 rfl ?_
          refine g_get hx hb hT hK hown fl_X2_26 hw 0 rfl (v := .int hCount) rfl dX2_takeBack_28 ?_
          refine lv_iconst (v := 1) hx hb dX2_takeBack_31 (by decide) ?_
          refine lv_isub hx hb dX2_takeBack_32 ?_
          obtain ⟨x8, ex8, h⟩ := g_bd_nm h
          refine g_topi ex8 ?_
          refine g_putf hx hb hT hK hown fl_X2_26 ft_X2 hw 0 rfl rfl rfl rfl (Nat.le_of_ble_eq_true rfl) (ws' := (k_Hist g a o hLatest x8 ++ (k_State g a (o+2) H0 ++ (k_State g a (o+15) H1 ++ (k_State g a (o+28) H2 ++ (k_State g a (o+41) H3 ++ (k_State g a (o+54) H4 ++ (k_State g a1 o1 r7)))))))) rfl dX2_takeBack_33 (fun H locs hw => ?_)
          refine lv_aload_n hx hb dX2_takeBack_36 rfl (lv_at hl 1 rfl) ?_
          refine lv_aload_n hx hb dX2_takeBack_37 rfl (lv_at hl 1 rfl) ?_
          refine g_get hx hb hT hK hown fl_X2_18 hw 0 rfl (v := .int hLatest) rfl dX2_takeBack_38 ?_
          refine lv_iconst (v := 5) hx hb dX2_takeBack_41 (by decide) ?_
          refine lv_iadd hx hb dX2_takeBack_42 ?_
          refine lv_iconst (v := 1) hx hb dX2_takeBack_43 (by decide) ?_
          refine lv_isub hx hb dX2_takeBack_44 ?_
          refine lv_iconst (v := 5) hx hb dX2_takeBack_45 (by decide) ?_
          refine g_irem hx hb dX2_takeBack_46 (by decide) ?_
          obtain ⟨x9, ex9, h⟩ := g_bd_nm h
          refine g_topi ex9 ?_
          refine g_putf hx hb hT hK hown fl_X2_18 ft_X2 hw 0 rfl rfl rfl rfl (Nat.le_of_ble_eq_true rfl) (ws' := (k_Hist g a o x9 x8 ++ (k_State g a (o+2) H0 ++ (k_State g a (o+15) H1 ++ (k_State g a (o+28) H2 ++ (k_State g a (o+41) H3 ++ (k_State g a (o+54) H4 ++ (k_State g a1 o1 r7)))))))) rfl dX2_takeBack_47 (fun H locs hw => ?_)
          obtain rfl := Option.some.inj h
          exact g_vret hQ hx hb hr hlk hw rfl dX2_takeBack_50
      · rw [if_neg hc8_2] at h
        by_cases hc8_3 : hLatest = 3
        · rw [if_pos hc8_3] at h
          refine g_aald hx hb hK hw 1 rfl (x := (a (o+41))) (by rw [hc8_3]; exact (show ¬ ((3 : Int32) < 0 ∨ 5 ≤ (3 : Int32).toNatClampNeg) by decide)) (by rw [hc8_3, show (3 : Int32).toNatClampNeg = 3 by decide]; rfl) dX2_takeBack_8 ?_
          refine lv_astore_n (lv' := [(2, .ref (a (o+41))), (0, .ref (a o)), (1, .ref (a1 o1))]) hx hb dX2_takeBack_9 rfl hl (by decide) rfl (fun ls hl => ?_)
          refine lv_aload_n hx hb dX2_takeBack_10 rfl (lv_at hl 1 rfl) ?_
          refine g_get hx hb hT hK hown fl_X2_26 hw 0 rfl (v := .int hCount) rfl dX2_takeBack_11 ?_
          refine lv_if_le (tgt := 50) hx hb dX2_takeBack_14 (by decide) (fun hc14 => ?_) (fun hc14 => ?_)
          · rw [if_pos hc14] at h
            obtain rfl := Option.some.inj h
            exact g_vret hQ hx hb hr hlk hw rfl dX2_takeBack_50
          · rw [if_neg hc14] at h
            refine lv_aload_n hx hb dX2_takeBack_17 rfl (lv_at hl 0 rfl) ?_
            refine lv_ifnull hx hb dX2_takeBack_18 ?_
            refine lv_aload_n hx hb dX2_takeBack_21 rfl (lv_at hl 2 rfl) ?_
            refine lv_aload_n hx hb dX2_takeBack_22 rfl (lv_at hl 0 rfl) ?_
            obtain ⟨r10, er10, h⟩ := g_cl_some h
            refine g_callV hx hb hml hown hT hK hA hw mk_X2_22 (c_X8_copyFrom l D g a1 o1 a (o+41) S2 H3 r10 er10) [67, 68, 69, 70, 71, 72, 73, 74, 75, 76, 77, 78, 79, 41, 42, 43, 44, 45, 46, 47, 48, 49, 50, 51, 52, 53] rfl (by decide) 67 rfl rfl rfl hl.1 [] rfl (Nat.le_of_ble_eq_true rfl) ⟨Nat.le_of_ble_eq_true rfl, Nat.le_of_ble_eq_true rfl⟩ ⟨Nat.zero_le _, Nat.zero_le _⟩ dX2_takeBack_23 (ws' := (k_Hist g a o hLatest hCount ++ (k_State g a (o+2) H0 ++ (k_State g a (o+15) H1 ++ (k_State g a (o+28) H2 ++ (k_State g a (o+41) H3 ++ (k_State g a (o+54) H4 ++ (k_State g a1 o1 r10)))))))) rfl (st2 := []) rfl (fun H locs hw => ?_)
            refine lv_aload_n hx hb dX2_takeBack_26 rfl (lv_at hl 1 rfl) ?_
            refine lv_dup hx hb dX2_takeBack_27 rfl ?_
            refine g_get hx hb hT hK hown fl_X2_26 hw 0 rfl (v := .int hCount) rfl dX2_takeBack_28 ?_
            refine lv_iconst (v := 1) hx hb dX2_takeBack_31 (by decide) ?_
            refine lv_isub hx hb dX2_takeBack_32 ?_
            obtain ⟨x11, ex11, h⟩ := g_bd_nm h
            refine g_topi ex11 ?_
            refine g_putf hx hb hT hK hown fl_X2_26 ft_X2 hw 0 rfl rfl rfl rfl (Nat.le_of_ble_eq_true rfl) (ws' := (k_Hist g a o hLatest x11 ++ (k_State g a (o+2) H0 ++ (k_State g a (o+15) H1 ++ (k_State g a (o+28) H2 ++ (k_State g a (o+41) H3 ++ (k_State g a (o+54) H4 ++ (k_State g a1 o1 r10)))))))) rfl dX2_takeBack_33 (fun H locs hw => ?_)
            refine lv_aload_n hx hb dX2_takeBack_36 rfl (lv_at hl 1 rfl) ?_
            refine lv_aload_n hx hb dX2_takeBack_37 rfl (lv_at hl 1 rfl) ?_
            refine g_get hx hb hT hK hown fl_X2_18 hw 0 rfl (v := .int hLatest) rfl dX2_takeBack_38 ?_
            refine lv_iconst (v := 5) hx hb dX2_takeBack_41 (by decide) ?_
            refine lv_iadd hx hb dX2_takeBack_42 ?_
            refine lv_iconst (v := 1) hx hb dX2_takeBack_43 (by decide) ?_
            refine lv_isub hx hb dX2_takeBack_44 ?_
            refine lv_iconst (v := 5) hx hb dX2_takeBack_45 (by decide) ?_
            refine g_irem hx hb dX2_takeBack_46 (by decide) ?_
            obtain ⟨x12, ex12, h⟩ := g_bd_nm h
            refine g_topi ex12 ?_
            refine g_putf hx hb hT hK hown fl_X2_18 ft_X2 hw 0 rfl rfl rfl rfl (Nat.le_of_ble_eq_true rfl) (ws' := (k_Hist g a o x12 x11 ++ (k_State g a (o+2) H0 ++ (k_State g a (o+15) H1 ++ (k_State g a (o+28) H2 ++ (k_State g a (o+41) H3 ++ (k_State g a (o+54) H4 ++ (k_State g a1 o1 r10)))))))) rfl dX2_takeBack_47 (fun H locs hw => ?_)
            obtain rfl := Option.some.inj h
            exact g_vret hQ hx hb hr hlk hw rfl dX2_takeBack_50
        · rw [if_neg hc8_3] at h
          by_cases hc8_4 : hLatest = 4
          · rw [if_pos hc8_4] at h
            refine g_aald hx hb hK hw 1 rfl (x := (a (o+54))) (by rw [hc8_4]; exact (show ¬ ((4 : Int32) < 0 ∨ 5 ≤ (4 : Int32).toNatClampNeg) by decide)) (by rw [hc8_4, show (4 : Int32).toNatClampNeg = 4 by decide]; rfl) dX2_takeBack_8 ?_
            refine lv_astore_n (lv' := [(2, .ref (a (o+54))), (0, .ref (a o)), (1, .ref (a1 o1))]) hx hb dX2_takeBack_9 rfl hl (by decide) rfl (fun ls hl => ?_)
            refine lv_aload_n hx hb dX2_takeBack_10 rfl (lv_at hl 1 rfl) ?_
            refine g_get hx hb hT hK hown fl_X2_26 hw 0 rfl (v := .int hCount) rfl dX2_takeBack_11 ?_
            refine lv_if_le (tgt := 50) hx hb dX2_takeBack_14 (by decide) (fun hc14 => ?_) (fun hc14 => ?_)
            · rw [if_pos hc14] at h
              obtain rfl := Option.some.inj h
              exact g_vret hQ hx hb hr hlk hw rfl dX2_takeBack_50
            · rw [if_neg hc14] at h
              refine lv_aload_n hx hb dX2_takeBack_17 rfl (lv_at hl 0 rfl) ?_
              refine lv_ifnull hx hb dX2_takeBack_18 ?_
              refine lv_aload_n hx hb dX2_takeBack_21 rfl (lv_at hl 2 rfl) ?_
              refine lv_aload_n hx hb dX2_takeBack_22 rfl (lv_at hl 0 rfl) ?_
              obtain ⟨r13, er13, h⟩ := g_cl_some h
              refine g_callV hx hb hml hown hT hK hA hw mk_X2_22 (c_X8_copyFrom l D g a1 o1 a (o+54) S2 H4 r13 er13) [67, 68, 69, 70, 71, 72, 73, 74, 75, 76, 77, 78, 79, 54, 55, 56, 57, 58, 59, 60, 61, 62, 63, 64, 65, 66] rfl (by decide) 67 rfl rfl rfl hl.1 [] rfl (Nat.le_of_ble_eq_true rfl) ⟨Nat.le_of_ble_eq_true rfl, Nat.le_of_ble_eq_true rfl⟩ ⟨Nat.zero_le _, Nat.zero_le _⟩ dX2_takeBack_23 (ws' := (k_Hist g a o hLatest hCount ++ (k_State g a (o+2) H0 ++ (k_State g a (o+15) H1 ++ (k_State g a (o+28) H2 ++ (k_State g a (o+41) H3 ++ (k_State g a (o+54) H4 ++ (k_State g a1 o1 r13)))))))) rfl (st2 := []) rfl (fun H locs hw => ?_)
              refine lv_aload_n hx hb dX2_takeBack_26 rfl (lv_at hl 1 rfl) ?_
              refine lv_dup hx hb dX2_takeBack_27 rfl ?_
              refine g_get hx hb hT hK hown fl_X2_26 hw 0 rfl (v := .int hCount) rfl dX2_takeBack_28 ?_
              refine lv_iconst (v := 1) hx hb dX2_takeBack_31 (by decide) ?_
              refine lv_isub hx hb dX2_takeBack_32 ?_
              obtain ⟨x14, ex14, h⟩ := g_bd_nm h
              refine g_topi ex14 ?_
              refine g_putf hx hb hT hK hown fl_X2_26 ft_X2 hw 0 rfl rfl rfl rfl (Nat.le_of_ble_eq_true rfl) (ws' := (k_Hist g a o hLatest x14 ++ (k_State g a (o+2) H0 ++ (k_State g a (o+15) H1 ++ (k_State g a (o+28) H2 ++ (k_State g a (o+41) H3 ++ (k_State g a (o+54) H4 ++ (k_State g a1 o1 r13)))))))) rfl dX2_takeBack_33 (fun H locs hw => ?_)
              refine lv_aload_n hx hb dX2_takeBack_36 rfl (lv_at hl 1 rfl) ?_
              refine lv_aload_n hx hb dX2_takeBack_37 rfl (lv_at hl 1 rfl) ?_
              refine g_get hx hb hT hK hown fl_X2_18 hw 0 rfl (v := .int hLatest) rfl dX2_takeBack_38 ?_
              refine lv_iconst (v := 5) hx hb dX2_takeBack_41 (by decide) ?_
              refine lv_iadd hx hb dX2_takeBack_42 ?_
              refine lv_iconst (v := 1) hx hb dX2_takeBack_43 (by decide) ?_
              refine lv_isub hx hb dX2_takeBack_44 ?_
              refine lv_iconst (v := 5) hx hb dX2_takeBack_45 (by decide) ?_
              refine g_irem hx hb dX2_takeBack_46 (by decide) ?_
              obtain ⟨x15, ex15, h⟩ := g_bd_nm h
              refine g_topi ex15 ?_
              refine g_putf hx hb hT hK hown fl_X2_18 ft_X2 hw 0 rfl rfl rfl rfl (Nat.le_of_ble_eq_true rfl) (ws' := (k_Hist g a o x15 x14 ++ (k_State g a (o+2) H0 ++ (k_State g a (o+15) H1 ++ (k_State g a (o+28) H2 ++ (k_State g a (o+41) H3 ++ (k_State g a (o+54) H4 ++ (k_State g a1 o1 r13)))))))) rfl dX2_takeBack_47 (fun H locs hw => ?_)
              obtain rfl := Option.some.inj h
              exact g_vret hQ hx hb hr hlk hw rfl dX2_takeBack_50
          · rw [if_neg hc8_4] at h
            cases h
set_option maxRecDepth 100000 in
set_option maxHeartbeats 4000000 in
theorem c_J7_fill_53178 (l : Launch) (D : va_G) (g : Nat → ClassId) (a1 : Nat) (n_p0 : Nat) (arr : (Nat → Int32)) (i1 : Int32) (u : (Nat → Int32)) (h : f_J7_fill_53178 n_p0 arr i1 = some u) : g_Ct l yJ7_fill_53178 cJ7_fill_53178 4 none 0 0 D g [.ref a1, .int i1] (k_ArrI g a1 n_p0 arr) (k_ArrI g a1 n_p0 u) none := by
  refine g_start RJ7 (by decide) rfl (Nat.le_of_ble_eq_true rfl) rfl ?_
  intro p e s m args below meth c A ls Q hQ hx hb hr hlk hml hown hT hK hA hw hl
  have hl : lv_has ls 4 [(0, .ref a1), (1, .int i1)] := hl
  unfold f_J7_fill_53178 at h
  refine lv_iconst (v := 0) hx hb dJ7_fill_53178_0 (by decide) ?_
  refine lv_istore_n (lv' := [(2, .int (0 : Int32)), (0, .ref a1), (1, .int i1)]) hx hb dJ7_fill_53178_1 rfl hl (by decide) rfl (fun ls hl => ?_)
  refine lv_aload_n hx hb dJ7_fill_53178_2 rfl (lv_at hl 1 rfl) ?_
  refine g_alenI hx hb hK hw 0 0 rfl rfl (v := (Int32.ofNat n_p0)) rfl dJ7_fill_53178_3 ?_
  refine lv_istore_n (lv' := [(3, .int (Int32.ofNat n_p0)), (2, .int (0 : Int32)), (0, .ref a1), (1, .int i1)]) hx hb dJ7_fill_53178_4 rfl hl (by decide) rfl (fun ls hl => ?_)
  have hL5 : ∀ (n : Nat) (x1 : Int32) (f2 : Nat → Int32) (H : Heap) (locs : List Loc) (ls : Array Slot), g_Wd D A s.heap H locs (k_ArrI g a1 n_p0 f2) → lv_has ls 4 [(0, .ref a1), (1, .int i1), (2, .int x1), (3, .int (Int32.ofNat n_p0))] → f_J7_fill_53178_L5 n_p0 i1 n x1 f2 = some u → W p l e (g_rm 0 0) s m args below meth c H locs 0 0 Q (F0 m 5 ls []) := by
    intro n
    induction n with
    | zero =>
      intro x1 f2 H locs ls hw hl h
      cases (show none = some u from h)
    | succ n ih5 =>
      intro x1 f2 H locs ls hw hl h
      rw [f_J7_fill_53178_L5] at h
      refine lv_iload_n hx hb dJ7_fill_53178_5 rfl (lv_at hl 2 rfl) ?_
      refine lv_iload_n hx hb dJ7_fill_53178_6 rfl (lv_at hl 3 rfl) ?_
      refine lv_icmp_ge (tgt := 20) hx hb dJ7_fill_53178_7 (by decide) (fun hc7 => ?_) (fun hc7 => ?_)
      · rw [if_pos hc7] at h
        obtain rfl := Option.some.inj h
        exact g_vret hQ hx hb hr hlk hw rfl dJ7_fill_53178_20
      · rw [if_neg hc7] at h
        refine lv_aload_n hx hb dJ7_fill_53178_10 rfl (lv_at hl 0 rfl) ?_
        refine lv_iload_n hx hb dJ7_fill_53178_11 rfl (lv_at hl 2 rfl) ?_
        refine lv_iload_n hx hb dJ7_fill_53178_12 rfl (lv_at hl 1 rfl) ?_
        obtain ⟨f3, ef3, hif3, h⟩ := g_wr_some h
        refine g_iast hx hb hK hw 0 (f := f2) rfl hif3 ef3 (ws' := (k_ArrI g a1 n_p0 f3)) rfl dJ7_fill_53178_13 (fun H locs hw => ?_)
        obtain ⟨x4, ex4, h⟩ := g_bd_nm h
        refine lv_iinc (v := x4) (lv' := [(2, .int x4), (0, .ref a1), (1, .int i1), (3, .int (Int32.ofNat n_p0))]) hx hb dJ7_fill_53178_14 hl (k := 2) rfl (by rw [ex4]; rfl) (by decide) rfl (fun ls hl => ?_)
        refine lv_goto (tgt := 5) hx hb dJ7_fill_53178_17 (by decide) ?_
        exact ih5 _ _ _ _ _ hw (lv_sub hl [1, 2, 0, 3] rfl) h
  exact hL5 g_fuel _ _ _ _ _ hw (lv_sub hl [2, 3, 1, 0] rfl) h
set_option maxRecDepth 100000 in
set_option maxHeartbeats 4000000 in
theorem c_X4_removeAll (l : Launch) (D : va_G) (g : Nat → ClassId) (a : Nat → Nat) (o : Nat) (pageCount : Int32) (pageGroups : (Nat → Int32)) (pages : (Nat → Int32)) (columns : (Nat → Int32)) (rowsP : (Nat → Int32)) (turned : (Nat → Int32)) (u : Int32 × (Nat → Int32)) (h : f_X4_removeAll pages = some u) : g_Ct l yX4_removeAll cX4_removeAll 1 none 1 23 D g [.ref (a o)] (k_Places g a o pageCount pageGroups pages columns rowsP turned) (k_Places g a o u.1 pageGroups u.2 columns rowsP turned) none := by
  refine g_start RX4 (by decide) rfl (Nat.le_of_ble_eq_true rfl) rfl ?_
  intro p e s m args below meth c A ls Q hQ hx hb hr hlk hml hown hT hK hA hw hl
  have hl : lv_has ls 1 [(0, .ref (a o))] := hl
  unfold f_X4_removeAll at h
  refine lv_aload_n hx hb dX4_removeAll_0 rfl (lv_at hl 0 rfl) ?_
  refine lv_iconst (v := 0) hx hb dX4_removeAll_1 (by decide) ?_
  refine g_putf hx hb hT hK hown fl_X4_34 ft_X4 hw 0 rfl rfl rfl rfl (Nat.le_of_ble_eq_true rfl) (ws' := (k_Places g a o (0 : Int32) pageGroups pages columns rowsP turned)) rfl dX4_removeAll_2 (fun H locs hw => ?_)
  refine lv_aload_n hx hb dX4_removeAll_5 rfl (lv_at hl 0 rfl) ?_
  refine g_get hx hb hT hK hown fl_X4_15 hw 0 rfl (v := .ref (a (o+2))) rfl dX4_removeAll_6 ?_
  refine lv_bipush (v := -4) hx hb dX4_removeAll_9 (by decide) ?_
  obtain ⟨r1, er1, h⟩ := g_cl_some h
  refine g_callS hx hb hml hown hT hK hA hw mk_X4_28 (c_J7_fill_53178 l D g (a (o+2)) 24 pages (-4 : Int32) r1 er1) [2] rfl (by decide) rfl hl.1 [] rfl (Nat.le_of_ble_eq_true rfl) ⟨Nat.le_of_ble_eq_true rfl, Nat.le_of_ble_eq_true rfl⟩ ⟨Nat.zero_le _, Nat.zero_le _⟩ dX4_removeAll_11 (ws' := (k_Places g a o (0 : Int32) pageGroups r1 columns rowsP turned)) rfl (st2 := []) rfl (fun H locs hw => ?_)
  obtain rfl := Option.some.inj h
  exact g_vret hQ hx hb hr hlk hw rfl dX4_removeAll_14
set_option maxRecDepth 100000 in
set_option maxHeartbeats 4000000 in
theorem c_X3_rankOf (l : Launch) (D : va_G) (g : Nat → ClassId) (a : Nat → Nat) (o : Nat) (aS : Nat → Nat) (oS : Nat) (aC : Nat → Nat) (oC : Nat) (spW : Int32) (spH : Int32) (fr : (Nat → Int64)) (codes : (Nat → Int32)) (counts : (Nat → Int32)) (chFound : Int32) (chPage : Int32) (chCol : Int32) (chRow : Int32) (chTurned : Int32) (chFirst : Int32) (chSecond : Int32) (line : (Nat → Int32)) (S : Nat → Nat → Int32) (lefts : (Nat → Int32)) (tops : (Nat → Int32)) (cwidths : (Nat → Int32)) (cheights : (Nat → Int32)) (originals : (Nat → Int32)) (orients : (Nat → Int32)) (i1 : Int32) (u : Int32) (h : f_X3_rankOf S cwidths cheights i1 = some u) : g_Ct l yX3_rankOf cX3_rankOf 4 (some .int) 1 14 D g [.ref (a o), .int i1] (k_Packer g a o (aS oS) (aC oC) spW spH fr codes counts chFound chPage chCol chRow chTurned chFirst chSecond line ++ (k_State g aS oS S ++ (k_Catalog g aC oC lefts tops cwidths cheights originals orients))) (k_Packer g a o (aS oS) (aC oC) spW spH fr codes counts chFound chPage chCol chRow chTurned chFirst chSecond line ++ (k_State g aS oS S ++ (k_Catalog g aC oC lefts tops cwidths cheights originals orients))) (some (.int u)) := by
  refine g_start RX3 (by decide) rfl (Nat.le_of_ble_eq_true rfl) rfl ?_
  intro p e s m args below meth c A ls Q hQ hx hb hr hlk hml hown hT hK hA hw hl
  have hl : lv_has ls 4 [(0, .ref (a o)), (1, .int i1)] := hl
  unfold f_X3_rankOf at h
  refine lv_aload_n hx hb dX3_rankOf_0 rfl (lv_at hl 0 rfl) ?_
  refine g_get hx hb hT hK hown fl_X3_33 hw 0 rfl (v := .ref (aC oC)) rfl dX3_rankOf_1 ?_
  refine g_get hx hb hT hK hown fl_X3_191 hw 20 rfl (v := .ref (aC (oC+3))) rfl dX3_rankOf_4 ?_
  refine lv_iload_n hx hb dX3_rankOf_7 rfl (lv_at hl 1 rfl) ?_
  obtain ⟨x1, ex1, hix1, h⟩ := g_rd_some h
  refine g_iald hx hb hK hw 23 (f := cwidths) rfl hix1 ex1 dX3_rankOf_8 ?_
  refine lv_istore_n (lv' := [(2, .int x1), (0, .ref (a o)), (1, .int i1)]) hx hb dX3_rankOf_9 rfl hl (by decide) rfl (fun ls hl => ?_)
  refine lv_aload_n hx hb dX3_rankOf_10 rfl (lv_at hl 1 rfl) ?_
  refine g_get hx hb hT hK hown fl_X3_33 hw 0 rfl (v := .ref (aC oC)) rfl dX3_rankOf_11 ?_
  refine g_get hx hb hT hK hown fl_X3_194 hw 20 rfl (v := .ref (aC (oC+4))) rfl dX3_rankOf_14 ?_
  refine lv_iload_n hx hb dX3_rankOf_17 rfl (lv_at hl 2 rfl) ?_
  obtain ⟨x2, ex2, hix2, h⟩ := g_rd_some h
  refine g_iald hx hb hK hw 24 (f := cheights) rfl hix2 ex2 dX3_rankOf_18 ?_
  refine lv_istore_n (lv' := [(3, .int x2), (2, .int x1), (0, .ref (a o)), (1, .int i1)]) hx hb dX3_rankOf_19 rfl hl (by decide) rfl (fun ls hl => ?_)
  refine lv_aload_n hx hb dX3_rankOf_20 rfl (lv_at hl 2 rfl) ?_
  refine g_get hx hb hT hK hown fl_X3_29 hw 0 rfl (v := .ref (aS oS)) rfl dX3_rankOf_21 ?_
  refine g_get hx hb hT hK hown fl_X3_71 hw 7 rfl (v := .ref (aS (oS+6))) rfl dX3_rankOf_24 ?_
  refine g_get hx hb hT hK hown fl_X3_203 hw 13 rfl (v := .int (S 5 10)) rfl dX3_rankOf_27 ?_
  by_cases hc30_1 : (S 5 10) = 1
  · rw [if_pos hc30_1] at h
    refine lv_tableIn (tgt := 56) hx hb dX3_rankOf_30 (by rw [hc30_1]; decide) (by rw [hc30_1]; decide) (by rw [hc30_1]; rfl) (by decide) ?_
    refine lv_iload_n hx hb dX3_rankOf_56 rfl (lv_at hl 1 rfl) ?_
    refine lv_iload_n hx hb dX3_rankOf_57 rfl (lv_at hl 0 rfl) ?_
    refine lv_imul hx hb dX3_rankOf_58 ?_
    obtain rfl := Option.some.inj h
    exact g_iret hQ hx hb hr hlk hw rfl dX3_rankOf_59
  · rw [if_neg hc30_1] at h
    by_cases hc30_2 : (S 5 10) = 2
    · rw [if_pos hc30_2] at h
      refine lv_tableIn (tgt := 60) hx hb dX3_rankOf_30 (by rw [hc30_2]; decide) (by rw [hc30_2]; decide) (by rw [hc30_2]; rfl) (by decide) ?_
      refine lv_bipush (v := 10) hx hb dX3_rankOf_60 (by decide) ?_
      refine lv_iload_n hx hb dX3_rankOf_62 rfl (lv_at hl 1 rfl) ?_
      refine lv_iload_n hx hb dX3_rankOf_63 rfl (lv_at hl 0 rfl) ?_
      refine g_mmax hx hb hml hl.1 hown hT mm_X3_101 (Nat.le_of_ble_eq_true rfl) (Nat.le_of_ble_eq_true rfl) (Nat.zero_le _) (Nat.zero_le _) dX3_rankOf_64 ?_
      refine lv_imul hx hb dX3_rankOf_67 ?_
      refine lv_iload_n hx hb dX3_rankOf_68 rfl (lv_at hl 1 rfl) ?_
      refine lv_iload_n hx hb dX3_rankOf_69 rfl (lv_at hl 0 rfl) ?_
      refine g_mmin hx hb hml hl.1 hown hT mm_X3_182 (Nat.le_of_ble_eq_true rfl) (Nat.le_of_ble_eq_true rfl) (Nat.zero_le _) (Nat.zero_le _) dX3_rankOf_70 ?_
      refine lv_iadd hx hb dX3_rankOf_73 ?_
      obtain rfl := Option.some.inj h
      exact g_iret hQ hx hb hr hlk hw rfl dX3_rankOf_74
    · rw [if_neg hc30_2] at h
      by_cases hc30_3 : (S 5 10) = 3
      · rw [if_pos hc30_3] at h
        refine lv_tableIn (tgt := 75) hx hb dX3_rankOf_30 (by rw [hc30_3]; decide) (by rw [hc30_3]; decide) (by rw [hc30_3]; rfl) (by decide) ?_
        refine lv_bipush (v := 10) hx hb dX3_rankOf_75 (by decide) ?_
        refine lv_iload_n hx hb dX3_rankOf_77 rfl (lv_at hl 0 rfl) ?_
        refine lv_imul hx hb dX3_rankOf_78 ?_
        refine lv_iload_n hx hb dX3_rankOf_79 rfl (lv_at hl 1 rfl) ?_
        refine lv_iadd hx hb dX3_rankOf_80 ?_
        obtain rfl := Option.some.inj h
        exact g_iret hQ hx hb hr hlk hw rfl dX3_rankOf_81
      · rw [if_neg hc30_3] at h
        refine lv_tableOut (tgt := 82) hx hb dX3_rankOf_30 (g_swout 1 3 (by decide) (by decide) (fun k h1 h2 => by rcases (show k = 1 ∨ k = 2 ∨ k = 3 by omega) with rfl | rfl | rfl <;> first | exact hc30_1 | exact hc30_2 | exact hc30_3)) (by decide) ?_
        refine lv_iconst (v := 0) hx hb dX3_rankOf_82 (by decide) ?_
        obtain rfl := Option.some.inj h
        exact g_iret hQ hx hb hr hlk hw rfl dX3_rankOf_83
set_option maxRecDepth 100000 in
set_option maxHeartbeats 4000000 in
theorem c_X3_lineUp (l : Launch) (D : va_G) (g : Nat → ClassId) (a : Nat → Nat) (o : Nat) (aS : Nat → Nat) (oS : Nat) (aC : Nat → Nat) (oC : Nat) (spW : Int32) (spH : Int32) (fr : (Nat → Int64)) (codes : (Nat → Int32)) (counts : (Nat → Int32)) (chFound : Int32) (chPage : Int32) (chCol : Int32) (chRow : Int32) (chTurned : Int32) (chFirst : Int32) (chSecond : Int32) (line : (Nat → Int32)) (S : Nat → Nat → Int32) (lefts : (Nat → Int32)) (tops : (Nat → Int32)) (cwidths : (Nat → Int32)) (cheights : (Nat → Int32)) (originals : (Nat → Int32)) (orients : (Nat → Int32)) (u : Int32 × (Nat → Int32)) (h : f_X3_lineUp line S cwidths cheights originals = some u) : g_Ct l yX3_lineUp cX3_lineUp 4 (some .int) 2 42 D g [.ref (a o)] (k_Packer g a o (aS oS) (aC oC) spW spH fr codes counts chFound chPage chCol chRow chTurned chFirst chSecond line ++ (k_State g aS oS S ++ (k_Catalog g aC oC lefts tops cwidths cheights originals orients))) (k_Packer g a o (aS oS) (aC oC) spW spH fr codes counts chFound chPage chCol chRow chTurned chFirst chSecond u.2 ++ (k_State g aS oS S ++ (k_Catalog g aC oC lefts tops cwidths cheights originals orients))) (some (.int u.1)) := by
  refine g_start RX3 (by decide) rfl (Nat.le_of_ble_eq_true rfl) rfl ?_
  intro p e s m args below meth c A ls Q hQ hx hb hr hlk hml hown hT hK hA hw hl
  have hl : lv_has ls 4 [(0, .ref (a o))] := hl
  unfold f_X3_lineUp at h
  refine lv_iconst (v := 0) hx hb dX3_lineUp_0 (by decide) ?_
  refine lv_istore_n (lv' := [(1, .int (0 : Int32)), (0, .ref (a o))]) hx hb dX3_lineUp_1 rfl hl (by decide) rfl (fun ls hl => ?_)
  refine lv_iconst (v := 0) hx hb dX3_lineUp_2 (by decide) ?_
  refine lv_istore_n (lv' := [(2, .int (0 : Int32)), (1, .int (0 : Int32)), (0, .ref (a o))]) hx hb dX3_lineUp_3 rfl hl (by decide) rfl (fun ls hl => ?_)
  have hL4 : ∀ (n : Nat) (x1 : Int32) (x2 : Int32) (f3 : Nat → Int32) (H : Heap) (locs : List Loc) (ls : Array Slot), g_Wd D A s.heap H locs (k_Packer g a o (aS oS) (aC oC) spW spH fr codes counts chFound chPage chCol chRow chTurned chFirst chSecond f3 ++ (k_State g aS oS S ++ (k_Catalog g aC oC lefts tops cwidths cheights originals orients))) → lv_has ls 4 [(0, .ref (a o)), (1, .int x1), (2, .int x2)] → f_X3_lineUp_L4 S cwidths cheights originals n x1 x2 f3 = some u → W p l e (g_rm 2 42) s m args below meth c H locs 0 0 Q (F0 m 4 ls []) := by
    intro n
    induction n with
    | zero =>
      intro x1 x2 f3 H locs ls hw hl h
      cases (show none = some u from h)
    | succ n ih4 =>
      intro x1 x2 f3 H locs ls hw hl h
      rw [f_X3_lineUp_L4] at h
      refine lv_iload_n hx hb dX3_lineUp_4 rfl (lv_at hl 2 rfl) ?_
      refine lv_aload_n hx hb dX3_lineUp_5 rfl (lv_at hl 0 rfl) ?_
      refine g_get hx hb hT hK hown fl_X3_29 hw 0 rfl (v := .ref (aS oS)) rfl dX3_lineUp_6 ?_
      refine g_get hx hb hT hK hown fl_X3_92 hw 7 rfl (v := .ref (aS (oS+1))) rfl dX3_lineUp_9 ?_
      refine g_get hx hb hT hK hown fl_X3_142 hw 8 rfl (v := .int (S 0 0)) rfl dX3_lineUp_12 ?_
      refine lv_icmp_ge (tgt := 91) hx hb dX3_lineUp_15 (by decide) (fun hc15 => ?_) (fun hc15 => ?_)
      · rw [if_pos hc15] at h
        refine lv_iload_n hx hb dX3_lineUp_91 rfl (lv_at hl 1 rfl) ?_
        obtain rfl := Option.some.inj h
        exact g_iret hQ hx hb hr hlk hw rfl dX3_lineUp_92
      · rw [if_neg hc15] at h
        refine lv_aload_n hx hb dX3_lineUp_18 rfl (lv_at hl 0 rfl) ?_
        refine g_get hx hb hT hK hown fl_X3_33 hw 0 rfl (v := .ref (aC oC)) rfl dX3_lineUp_19 ?_
        refine lv_iload_n hx hb dX3_lineUp_22 rfl (lv_at hl 2 rfl) ?_
        obtain ⟨r4, er4, h⟩ := g_cl_some h
        refine g_callV hx hb hml hown hT hK hA hw mk_X3_197 (c_X0_isOriginal l D g aC oC lefts tops cwidths cheights originals orients x2 r4 er4) [20, 21, 22, 23, 24, 25, 26] rfl (by decide) 20 rfl rfl rfl hl.1 [] rfl (Nat.le_of_ble_eq_true rfl) ⟨Nat.le_of_ble_eq_true rfl, Nat.le_of_ble_eq_true rfl⟩ ⟨Nat.zero_le _, Nat.zero_le _⟩ dX3_lineUp_23 (ws' := (k_Packer g a o (aS oS) (aC oC) spW spH fr codes counts chFound chPage chCol chRow chTurned chFirst chSecond f3 ++ (k_State g aS oS S ++ (k_Catalog g aC oC lefts tops cwidths cheights originals orients)))) rfl (st2 := [.int r4]) rfl (fun H locs hw => ?_)
        obtain ⟨j85_6, ej85_6, h⟩ := g_jn_nm h
        have hj85_6 : ∀ (x5 : Int32) (f6 : Nat → Int32) (H : Heap) (locs : List Loc) (ls : Array Slot), g_Wd D A s.heap H locs (k_Packer g a o (aS oS) (aC oC) spW spH fr codes counts chFound chPage chCol chRow chTurned chFirst chSecond f6 ++ (k_State g aS oS S ++ (k_Catalog g aC oC lefts tops cwidths cheights originals orients))) → lv_has ls 4 [(0, .ref (a o)), (1, .int x5), (2, .int x2)] → j85_6 x5 f6 = some u → W p l e (g_rm 2 42) s m args below meth c H locs 0 0 Q (F0 m 85 ls []) := by
          intro x5 f6 H locs ls hw hl h
          subst ej85_6
          dsimp only at h
          obtain ⟨x8, ex8, h⟩ := g_bd_nm h
          refine lv_iinc (v := x8) (lv' := [(2, .int x8), (0, .ref (a o)), (1, .int x5)]) hx hb dX3_lineUp_85 hl (k := 2) rfl (by rw [ex8]; rfl) (by decide) rfl (fun ls hl => ?_)
          refine lv_goto (tgt := 4) hx hb dX3_lineUp_88 (by decide) ?_
          exact ih4 _ _ _ _ _ _ hw (lv_sub hl [1, 2, 0] rfl) h
        refine lv_if_eq (tgt := 85) hx hb dX3_lineUp_26 (by decide) (fun hc26 => ?_) (fun hc26 => ?_)
        · rw [if_pos hc26] at h
          exact hj85_6 _ _ _ _ _ hw (lv_sub hl [0, 1, 2] rfl) h
        · rw [if_neg hc26] at h
          refine lv_iload_n hx hb dX3_lineUp_29 rfl (lv_at hl 1 rfl) ?_
          refine lv_istore_n (lv' := [(3, .int x1), (0, .ref (a o)), (1, .int x1), (2, .int x2)]) hx hb dX3_lineUp_30 rfl hl (by decide) rfl (fun ls hl => ?_)
          obtain ⟨k75_10, ek75_10, h⟩ := g_jn_nm h
          have hk75_10 : ∀ (x9 : Int32) (f10 : Nat → Int32) (H : Heap) (locs : List Loc) (ls : Array Slot), g_Wd D A s.heap H locs (k_Packer g a o (aS oS) (aC oC) spW spH fr codes counts chFound chPage chCol chRow chTurned chFirst chSecond f10 ++ (k_State g aS oS S ++ (k_Catalog g aC oC lefts tops cwidths cheights originals orients))) → lv_has ls 4 [(0, .ref (a o)), (1, .int x1), (2, .int x2), (3, .int x9)] → k75_10 x9 f10 = some u → W p l e (g_rm 2 42) s m args below meth c H locs 0 0 Q (F0 m 75 ls []) := by
            intro x9 f10 H locs ls hw hl h
            subst ek75_10
            dsimp only at h
            refine lv_aload_n hx hb dX3_lineUp_75 rfl (lv_at hl 0 rfl) ?_
            refine g_get hx hb hT hK hown fl_X3_25 hw 0 rfl (v := .ref (a (o+6))) rfl dX3_lineUp_76 ?_
            refine lv_iload_n hx hb dX3_lineUp_79 rfl (lv_at hl 3 rfl) ?_
            refine lv_iload_n hx hb dX3_lineUp_80 rfl (lv_at hl 2 rfl) ?_
            obtain ⟨f12, ef12, hif12, h⟩ := g_wr_some h
            refine g_iast hx hb hK hw 6 (f := f10) rfl hif12 ef12 (ws' := (k_Packer g a o (aS oS) (aC oC) spW spH fr codes counts chFound chPage chCol chRow chTurned chFirst chSecond f12 ++ (k_State g aS oS S ++ (k_Catalog g aC oC lefts tops cwidths cheights originals orients)))) rfl dX3_lineUp_81 (fun H locs hw => ?_)
            obtain ⟨x13, ex13, h⟩ := g_bd_nm h
            refine lv_iinc (v := x13) (lv' := [(1, .int x13), (0, .ref (a o)), (2, .int x2), (3, .int x9)]) hx hb dX3_lineUp_82 hl (k := 1) rfl (by rw [ex13]; rfl) (by decide) rfl (fun ls hl => ?_)
            exact hj85_6 _ _ _ _ _ hw (lv_sub hl [1, 0, 2] rfl) h
          have hL31 : ∀ (n : Nat) (x14 : Int32) (f15 : Nat → Int32) (H : Heap) (locs : List Loc) (ls : Array Slot), g_Wd D A s.heap H locs (k_Packer g a o (aS oS) (aC oC) spW spH fr codes counts chFound chPage chCol chRow chTurned chFirst chSecond f15 ++ (k_State g aS oS S ++ (k_Catalog g aC oC lefts tops cwidths cheights originals orients))) → lv_has ls 4 [(0, .ref (a o)), (1, .int x1), (2, .int x2), (3, .int x14)] → f_X3_lineUp_L31 S cwidths cheights x2 k75_10 n x14 f15 = some u → W p l e (g_rm 2 42) s m args below meth c H locs 0 0 Q (F0 m 31 ls []) := by
            intro n
            induction n with
            | zero =>
              intro x14 f15 H locs ls hw hl h
              cases (show none = some u from h)
            | succ n ih31 =>
              intro x14 f15 H locs ls hw hl h
              rw [f_X3_lineUp_L31] at h
              refine lv_iload_n hx hb dX3_lineUp_31 rfl (lv_at hl 3 rfl) ?_
              refine lv_if_le (tgt := 75) hx hb dX3_lineUp_32 (by decide) (fun hc32 => ?_) (fun hc32 => ?_)
              · rw [if_pos hc32] at h
                exact hk75_10 _ _ _ _ _ hw (lv_sub hl [0, 1, 2, 3] rfl) h
              · rw [if_neg hc32] at h
                refine lv_aload_n hx hb dX3_lineUp_35 rfl (lv_at hl 0 rfl) ?_
                refine lv_aload_n hx hb dX3_lineUp_36 rfl (lv_at hl 0 rfl) ?_
                refine g_get hx hb hT hK hown fl_X3_25 hw 0 rfl (v := .ref (a (o+6))) rfl dX3_lineUp_37 ?_
                refine lv_iload_n hx hb dX3_lineUp_40 rfl (lv_at hl 3 rfl) ?_
                refine lv_iconst (v := 1) hx hb dX3_lineUp_41 (by decide) ?_
                refine lv_isub hx hb dX3_lineUp_42 ?_
                obtain ⟨x16, ex16, hix16, h⟩ := g_rd_some h
                refine g_iald hx hb hK hw 6 (f := f15) rfl hix16 ex16 dX3_lineUp_43 ?_
                obtain ⟨r17, er17, h⟩ := g_cl_some h
                refine g_callV hx hb hml hown hT hK hA hw mk_X3_200 (c_X3_rankOf l D g a o aS oS aC oC spW spH fr codes counts chFound chPage chCol chRow chTurned chFirst chSecond f15 S lefts tops cwidths cheights originals orients x16 r17 er17) [0, 1, 2, 3, 4, 5, 6, 7, 8, 9, 10, 11, 12, 13, 14, 15, 16, 17, 18, 19, 20, 21, 22, 23, 24, 25, 26] rfl (by decide) 0 rfl rfl rfl hl.1 [] rfl (Nat.le_of_ble_eq_true rfl) ⟨Nat.le_of_ble_eq_true rfl, Nat.le_of_ble_eq_true rfl⟩ ⟨Nat.zero_le _, Nat.zero_le _⟩ dX3_lineUp_44 (ws' := (k_Packer g a o (aS oS) (aC oC) spW spH fr codes counts chFound chPage chCol chRow chTurned chFirst chSecond f15 ++ (k_State g aS oS S ++ (k_Catalog g aC oC lefts tops cwidths cheights originals orients)))) rfl (st2 := [.int r17]) rfl (fun H locs hw => ?_)
                refine lv_aload_n hx hb dX3_lineUp_47 rfl (lv_at hl 0 rfl) ?_
                refine lv_iload_n hx hb dX3_lineUp_48 rfl (lv_at hl 2 rfl) ?_
                obtain ⟨r18, er18, h⟩ := g_cl_some h
                refine g_callV hx hb hml hown hT hK hA hw mk_X3_200 (c_X3_rankOf l D g a o aS oS aC oC spW spH fr codes counts chFound chPage chCol chRow chTurned chFirst chSecond f15 S lefts tops cwidths cheights originals orients x2 r18 er18) [0, 1, 2, 3, 4, 5, 6, 7, 8, 9, 10, 11, 12, 13, 14, 15, 16, 17, 18, 19, 20, 21, 22, 23, 24, 25, 26] rfl (by decide) 0 rfl rfl rfl hl.1 [.int r17] rfl (Nat.le_of_ble_eq_true rfl) ⟨Nat.le_of_ble_eq_true rfl, Nat.le_of_ble_eq_true rfl⟩ ⟨Nat.zero_le _, Nat.zero_le _⟩ dX3_lineUp_49 (ws' := (k_Packer g a o (aS oS) (aC oC) spW spH fr codes counts chFound chPage chCol chRow chTurned chFirst chSecond f15 ++ (k_State g aS oS S ++ (k_Catalog g aC oC lefts tops cwidths cheights originals orients)))) rfl (st2 := [.int r18, .int r17]) rfl (fun H locs hw => ?_)
                refine lv_icmp_ge (tgt := 75) hx hb dX3_lineUp_52 (by decide) (fun hc52 => ?_) (fun hc52 => ?_)
                · rw [if_pos hc52] at h
                  exact hk75_10 _ _ _ _ _ hw (lv_sub hl [0, 1, 2, 3] rfl) h
                · rw [if_neg hc52] at h
                  refine lv_aload_n hx hb dX3_lineUp_55 rfl (lv_at hl 0 rfl) ?_
                  refine g_get hx hb hT hK hown fl_X3_25 hw 0 rfl (v := .ref (a (o+6))) rfl dX3_lineUp_56 ?_
                  refine lv_iload_n hx hb dX3_lineUp_59 rfl (lv_at hl 3 rfl) ?_
                  refine lv_aload_n hx hb dX3_lineUp_60 rfl (lv_at hl 0 rfl) ?_
                  refine g_get hx hb hT hK hown fl_X3_25 hw 0 rfl (v := .ref (a (o+6))) rfl dX3_lineUp_61 ?_
                  refine lv_iload_n hx hb dX3_lineUp_64 rfl (lv_at hl 3 rfl) ?_
                  refine lv_iconst (v := 1) hx hb dX3_lineUp_65 (by decide) ?_
                  refine lv_isub hx hb dX3_lineUp_66 ?_
                  obtain ⟨x19, ex19, hix19, h⟩ := g_rd_some h
                  refine g_iald hx hb hK hw 6 (f := f15) rfl hix19 ex19 dX3_lineUp_67 ?_
                  obtain ⟨f20, ef20, hif20, h⟩ := g_wr_some h
                  refine g_iast hx hb hK hw 6 (f := f15) rfl hif20 ef20 (ws' := (k_Packer g a o (aS oS) (aC oC) spW spH fr codes counts chFound chPage chCol chRow chTurned chFirst chSecond f20 ++ (k_State g aS oS S ++ (k_Catalog g aC oC lefts tops cwidths cheights originals orients)))) rfl dX3_lineUp_68 (fun H locs hw => ?_)
                  obtain ⟨x21, ex21, h⟩ := g_bd_nm h
                  refine lv_iinc (v := x21) (lv' := [(3, .int x21), (0, .ref (a o)), (1, .int x1), (2, .int x2)]) hx hb dX3_lineUp_69 hl (k := 3) rfl (by rw [ex21]; rfl) (by decide) rfl (fun ls hl => ?_)
                  refine lv_goto (tgt := 31) hx hb dX3_lineUp_72 (by decide) ?_
                  exact ih31 _ _ _ _ _ hw (lv_sub hl [1, 2, 3, 0] rfl) h
          exact hL31 g_fuel _ _ _ _ _ hw (lv_sub hl [1, 2, 3, 0] rfl) h
  exact hL4 g_fuel _ _ _ _ _ _ hw (lv_sub hl [2, 1, 0] rfl) h
set_option maxRecDepth 100000 in
set_option maxHeartbeats 4000000 in
theorem c_X4_isEmptyPage (l : Launch) (D : va_G) (g : Nat → ClassId) (a : Nat → Nat) (o : Nat) (pageCount : Int32) (pageGroups : (Nat → Int32)) (pages : (Nat → Int32)) (columns : (Nat → Int32)) (rowsP : (Nat → Int32)) (turned : (Nat → Int32)) (i1 : Int32) (u : Int32) (h : f_X4_isEmptyPage pages i1 = some u) : g_Ct l yX4_isEmptyPage cX4_isEmptyPage 3 (some .boolean) 0 0 D g [.ref (a o), .int i1] (k_Places g a o pageCount pageGroups pages columns rowsP turned) (k_Places g a o pageCount pageGroups pages columns rowsP turned) (some (.int u)) := by
  refine g_start RX4 (by decide) rfl (Nat.le_of_ble_eq_true rfl) rfl ?_
  intro p e s m args below meth c A ls Q hQ hx hb hr hlk hml hown hT hK hA hw hl
  have hl : lv_has ls 3 [(0, .ref (a o)), (1, .int i1)] := hl
  unfold f_X4_isEmptyPage at h
  refine lv_iconst (v := 0) hx hb dX4_isEmptyPage_0 (by decide) ?_
  refine lv_istore_n (lv' := [(2, .int (0 : Int32)), (0, .ref (a o)), (1, .int i1)]) hx hb dX4_isEmptyPage_1 rfl hl (by decide) rfl (fun ls hl => ?_)
  have hL2 : ∀ (n : Nat) (x1 : Int32) (H : Heap) (locs : List Loc) (ls : Array Slot), g_Wd D A s.heap H locs (k_Places g a o pageCount pageGroups pages columns rowsP turned) → lv_has ls 3 [(0, .ref (a o)), (1, .int i1), (2, .int x1)] → f_X4_isEmptyPage_L2 pages i1 n x1 = some u → W p l e (g_rm 0 0) s m args below meth c H locs 0 0 Q (F0 m 2 ls []) := by
    intro n
    induction n with
    | zero =>
      intro x1 H locs ls hw hl h
      cases (show none = some u from h)
    | succ n ih2 =>
      intro x1 H locs ls hw hl h
      rw [f_X4_isEmptyPage_L2] at h
      refine lv_iload_n hx hb dX4_isEmptyPage_2 rfl (lv_at hl 2 rfl) ?_
      refine lv_bipush (v := 24) hx hb dX4_isEmptyPage_3 (by decide) ?_
      refine lv_icmp_ge (tgt := 26) hx hb dX4_isEmptyPage_5 (by decide) (fun hc5 => ?_) (fun hc5 => ?_)
      · rw [if_pos hc5] at h
        refine lv_iconst (v := 1) hx hb dX4_isEmptyPage_26 (by decide) ?_
        obtain rfl := Option.some.inj h
        exact g_zret hQ hx hb hr hlk (Or.inr rfl) hw rfl dX4_isEmptyPage_27
      · rw [if_neg hc5] at h
        refine lv_aload_n hx hb dX4_isEmptyPage_8 rfl (lv_at hl 0 rfl) ?_
        refine g_get hx hb hT hK hown fl_X4_15 hw 0 rfl (v := .ref (a (o+2))) rfl dX4_isEmptyPage_9 ?_
        refine lv_iload_n hx hb dX4_isEmptyPage_12 rfl (lv_at hl 2 rfl) ?_
        obtain ⟨x2, ex2, hix2, h⟩ := g_rd_some h
        refine g_iald hx hb hK hw 2 (f := pages) rfl hix2 ex2 dX4_isEmptyPage_13 ?_
        refine lv_iload_n hx hb dX4_isEmptyPage_14 rfl (lv_at hl 1 rfl) ?_
        refine lv_icmp_ne (tgt := 20) hx hb dX4_isEmptyPage_15 (by decide) (fun hc15 => ?_) (fun hc15 => ?_)
        · rw [if_neg hc15] at h
          obtain ⟨x3, ex3, h⟩ := g_bd_nm h
          refine lv_iinc (v := x3) (lv' := [(2, .int x3), (0, .ref (a o)), (1, .int i1)]) hx hb dX4_isEmptyPage_20 hl (k := 2) rfl (by rw [ex3]; rfl) (by decide) rfl (fun ls hl => ?_)
          refine lv_goto (tgt := 2) hx hb dX4_isEmptyPage_23 (by decide) ?_
          exact ih2 _ _ _ _ hw (lv_sub hl [1, 2, 0] rfl) h
        · rw [if_pos hc15] at h
          refine lv_iconst (v := 0) hx hb dX4_isEmptyPage_18 (by decide) ?_
          obtain rfl := Option.some.inj h
          exact g_zret hQ hx hb hr hlk (Or.inl rfl) hw rfl dX4_isEmptyPage_19
  exact hL2 g_fuel _ _ _ _ hw (lv_sub hl [1, 2, 0] rfl) h
set_option maxRecDepth 100000 in
set_option maxHeartbeats 4000000 in
theorem c_X3_isOpenTo (l : Launch) (D : va_G) (g : Nat → ClassId) (a : Nat → Nat) (o : Nat) (aS : Nat → Nat) (oS : Nat) (aC : Nat → Nat) (oC : Nat) (spW : Int32) (spH : Int32) (fr : (Nat → Int64)) (codes : (Nat → Int32)) (counts : (Nat → Int32)) (chFound : Int32) (chPage : Int32) (chCol : Int32) (chRow : Int32) (chTurned : Int32) (chFirst : Int32) (chSecond : Int32) (line : (Nat → Int32)) (S : Nat → Nat → Int32) (i1 : Int32) (i2 : Int32) (u : Int32) (h : f_X3_isOpenTo S i1 i2 = some u) : g_Ct l yX3_isOpenTo cX3_isOpenTo 3 (some .boolean) 1 22 D g [.ref (a o), .int i1, .int i2] (k_Packer g a o (aS oS) (aC oC) spW spH fr codes counts chFound chPage chCol chRow chTurned chFirst chSecond line ++ (k_State g aS oS S)) (k_Packer g a o (aS oS) (aC oC) spW spH fr codes counts chFound chPage chCol chRow chTurned chFirst chSecond line ++ (k_State g aS oS S)) (some (.int u)) := by
  refine g_start RX3 (by decide) rfl (Nat.le_of_ble_eq_true rfl) rfl ?_
  intro p e s m args below meth c A ls Q hQ hx hb hr hlk hml hown hT hK hA hw hl
  have hl : lv_has ls 3 [(0, .ref (a o)), (1, .int i1), (2, .int i2)] := hl
  unfold f_X3_isOpenTo at h
  refine lv_aload_n hx hb dX3_isOpenTo_0 rfl (lv_at hl 0 rfl) ?_
  refine g_get hx hb hT hK hown fl_X3_29 hw 0 rfl (v := .ref (aS oS)) rfl dX3_isOpenTo_1 ?_
  refine g_get hx hb hT hK hown fl_X3_71 hw 7 rfl (v := .ref (aS (oS+6))) rfl dX3_isOpenTo_4 ?_
  refine g_get hx hb hT hK hown fl_X3_206 hw 13 rfl (v := .int (S 5 9)) rfl dX3_isOpenTo_7 ?_
  refine lv_if_eq (tgt := 54) hx hb dX3_isOpenTo_10 (by decide) (fun hc10 => ?_) (fun hc10 => ?_)
  · rw [if_pos hc10] at h
    refine lv_iconst (v := 1) hx hb dX3_isOpenTo_54 (by decide) ?_
    refine lv_goto (tgt := 59) hx hb dX3_isOpenTo_55 (by decide) ?_
    obtain rfl := Option.some.inj h
    exact g_zret hQ hx hb hr hlk (Or.inr rfl) hw rfl dX3_isOpenTo_59
  · rw [if_neg hc10] at h
    refine lv_aload_n hx hb dX3_isOpenTo_13 rfl (lv_at hl 0 rfl) ?_
    refine g_get hx hb hT hK hown fl_X3_29 hw 0 rfl (v := .ref (aS oS)) rfl dX3_isOpenTo_14 ?_
    refine g_get hx hb hT hK hown fl_X3_37 hw 7 rfl (v := .ref (aS (oS+7))) rfl dX3_isOpenTo_17 ?_
    refine g_get hx hb hT hK hown fl_X3_89 hw 14 rfl (v := .ref (aS (oS+8))) rfl dX3_isOpenTo_20 ?_
    refine lv_iload_n hx hb dX3_isOpenTo_23 rfl (lv_at hl 1 rfl) ?_
    obtain ⟨x1, ex1, hix1, h⟩ := g_rd_some h
    refine g_iald hx hb hK hw 15 (f := (S 7)) rfl hix1 ex1 dX3_isOpenTo_24 ?_
    refine lv_aload_n hx hb dX3_isOpenTo_25 rfl (lv_at hl 0 rfl) ?_
    refine g_get hx hb hT hK hown fl_X3_29 hw 0 rfl (v := .ref (aS oS)) rfl dX3_isOpenTo_26 ?_
    refine g_get hx hb hT hK hown fl_X3_92 hw 7 rfl (v := .ref (aS (oS+1))) rfl dX3_isOpenTo_29 ?_
    refine g_get hx hb hT hK hown fl_X3_96 hw 8 rfl (v := .ref (aS (oS+4))) rfl dX3_isOpenTo_32 ?_
    refine lv_iload_n hx hb dX3_isOpenTo_35 rfl (lv_at hl 2 rfl) ?_
    obtain ⟨x2, ex2, hix2, h⟩ := g_rd_some h
    refine g_iald hx hb hK hw 11 (f := (S 3)) rfl hix2 ex2 dX3_isOpenTo_36 ?_
    refine lv_icmp_eq (tgt := 54) hx hb dX3_isOpenTo_37 (by decide) (fun hc37 => ?_) (fun hc37 => ?_)
    · rw [if_pos hc37] at h
      refine lv_iconst (v := 1) hx hb dX3_isOpenTo_54 (by decide) ?_
      refine lv_goto (tgt := 59) hx hb dX3_isOpenTo_55 (by decide) ?_
      obtain rfl := Option.some.inj h
      exact g_zret hQ hx hb hr hlk (Or.inr rfl) hw rfl dX3_isOpenTo_59
    · rw [if_neg hc37] at h
      refine lv_aload_n hx hb dX3_isOpenTo_40 rfl (lv_at hl 0 rfl) ?_
      refine g_get hx hb hT hK hown fl_X3_29 hw 0 rfl (v := .ref (aS oS)) rfl dX3_isOpenTo_41 ?_
      refine g_get hx hb hT hK hown fl_X3_37 hw 7 rfl (v := .ref (aS (oS+7))) rfl dX3_isOpenTo_44 ?_
      refine lv_iload_n hx hb dX3_isOpenTo_47 rfl (lv_at hl 1 rfl) ?_
      obtain ⟨r3, er3, h⟩ := g_cl_some h
      refine g_callV hx hb hml hown hT hK hA hw mk_X3_86 (c_X4_isEmptyPage l D g aS (oS+7) (S 6 0) (S 7) (S 8) (S 9) (S 10) (S 11) i1 r3 er3) [14, 15, 16, 17, 18, 19] rfl (by decide) 14 rfl rfl rfl hl.1 [] rfl (Nat.le_of_ble_eq_true rfl) ⟨Nat.le_of_ble_eq_true rfl, Nat.le_of_ble_eq_true rfl⟩ ⟨Nat.zero_le _, Nat.zero_le _⟩ dX3_isOpenTo_48 (ws' := (k_Packer g a o (aS oS) (aC oC) spW spH fr codes counts chFound chPage chCol chRow chTurned chFirst chSecond line ++ (k_State g aS oS S))) rfl (st2 := [.int r3]) rfl (fun H locs hw => ?_)
      refine lv_if_eq (tgt := 58) hx hb dX3_isOpenTo_51 (by decide) (fun hc51 => ?_) (fun hc51 => ?_)
      · rw [if_pos hc51] at h
        refine lv_iconst (v := 0) hx hb dX3_isOpenTo_58 (by decide) ?_
        obtain rfl := Option.some.inj h
        exact g_zret hQ hx hb hr hlk (Or.inl rfl) hw rfl dX3_isOpenTo_59
      · rw [if_neg hc51] at h
        refine lv_iconst (v := 1) hx hb dX3_isOpenTo_54 (by decide) ?_
        refine lv_goto (tgt := 59) hx hb dX3_isOpenTo_55 (by decide) ?_
        obtain rfl := Option.some.inj h
        exact g_zret hQ hx hb hr hlk (Or.inr rfl) hw rfl dX3_isOpenTo_59
set_option maxRecDepth 100000 in
set_option maxHeartbeats 4000000 in
theorem c_X7_codeOf (l : Launch) (D : va_G) (g : Nat → ClassId) (a : Nat → Nat) (o : Nat) (spW : Int32) (spH : Int32) (fr : (Nat → Int64)) (codes : (Nat → Int32)) (counts : (Nat → Int32)) (i1 : Int32) (i2 : Int32) (u : Int32) (h : f_X7_codeOf codes i1 i2 = some u) : g_Ct l yX7_codeOf cX7_codeOf 3 (some .int) 0 0 D g [.ref (a o), .int i1, .int i2] (k_Space g a o spW spH fr codes counts) (k_Space g a o spW spH fr codes counts) (some (.int u)) := by
  refine g_start RX7 (by decide) rfl (Nat.le_of_ble_eq_true rfl) rfl ?_
  intro p e s m args below meth c A ls Q hQ hx hb hr hlk hml hown hT hK hA hw hl
  have hl : lv_has ls 3 [(0, .ref (a o)), (1, .int i1), (2, .int i2)] := hl
  unfold f_X7_codeOf at h
  refine lv_aload_n hx hb dX7_codeOf_0 rfl (lv_at hl 0 rfl) ?_
  refine g_get hx hb hT hK hown fl_X7_15 hw 0 rfl (v := .ref (a (o+2))) rfl dX7_codeOf_1 ?_
  refine lv_iload_n hx hb dX7_codeOf_4 rfl (lv_at hl 1 rfl) ?_
  refine lv_sipush (v := 349) hx hb dX7_codeOf_5 (by decide) ?_
  refine lv_imul hx hb dX7_codeOf_8 ?_
  refine lv_iload_n hx hb dX7_codeOf_9 rfl (lv_at hl 2 rfl) ?_
  refine lv_iadd hx hb dX7_codeOf_10 ?_
  obtain ⟨x1, ex1, hix1, h⟩ := g_rd_some h
  refine g_iald hx hb hK hw 2 (f := codes) rfl hix1 ex1 dX7_codeOf_11 ?_
  obtain rfl := Option.some.inj h
  exact g_iret hQ hx hb hr hlk hw rfl dX7_codeOf_12
set_option maxRecDepth 100000 in
set_option maxHeartbeats 4000000 in
theorem c_X5_boxGrowth (l : Launch) (D : va_G) (g : Nat → ClassId) (a : Nat → Nat) (o : Nat) (pageWidth : Int32) (pageHeight : Int32) (pageLimit : Int32) (padding : Int32) (border : Int32) (extrusion : Int32) (trimming : Int32) (matching : Int32) (rotation : Int32) (grouped : Int32) (order : Int32) (way : Int32) : g_Ct l yX5_boxGrowth cX5_boxGrowth 1 (some .int) 0 0 D g [.ref (a o)] (k_Settings g a o pageWidth pageHeight pageLimit padding border extrusion trimming matching rotation grouped order way) (k_Settings g a o pageWidth pageHeight pageLimit padding border extrusion trimming matching rotation grouped order way) (some (.int (f_X5_boxGrowth padding extrusion))) := by
  refine g_start RX5 (by decide) rfl (Nat.le_of_ble_eq_true rfl) rfl ?_
  intro p e s m args below meth c A ls Q hQ hx hb hr hlk hml hown hT hK hA hw hl
  have hl : lv_has ls 1 [(0, .ref (a o))] := hl
  generalize h : f_X5_boxGrowth padding extrusion = u at hQ
  unfold f_X5_boxGrowth at h
  refine lv_iconst (v := 2) hx hb dX5_boxGrowth_0 (by decide) ?_
  refine lv_aload_n hx hb dX5_boxGrowth_1 rfl (lv_at hl 0 rfl) ?_
  refine g_get hx hb hT hK hown fl_X5_53 hw 0 rfl (v := .int extrusion) rfl dX5_boxGrowth_2 ?_
  refine lv_imul hx hb dX5_boxGrowth_5 ?_
  refine lv_aload_n hx hb dX5_boxGrowth_6 rfl (lv_at hl 0 rfl) ?_
  refine g_get hx hb hT hK hown fl_X5_37 hw 0 rfl (v := .int padding) rfl dX5_boxGrowth_7 ?_
  refine lv_iadd hx hb dX5_boxGrowth_10 ?_
  obtain rfl := h
  exact g_iret hQ hx hb hr hlk hw rfl dX5_boxGrowth_11
set_option maxRecDepth 100000 in
set_option maxHeartbeats 4000000 in
theorem c_X3_boxWidth (l : Launch) (D : va_G) (g : Nat → ClassId) (a : Nat → Nat) (o : Nat) (aS : Nat → Nat) (oS : Nat) (aC : Nat → Nat) (oC : Nat) (spW : Int32) (spH : Int32) (fr : (Nat → Int64)) (codes : (Nat → Int32)) (counts : (Nat → Int32)) (chFound : Int32) (chPage : Int32) (chCol : Int32) (chRow : Int32) (chTurned : Int32) (chFirst : Int32) (chSecond : Int32) (line : (Nat → Int32)) (S : Nat → Nat → Int32) (lefts : (Nat → Int32)) (tops : (Nat → Int32)) (cwidths : (Nat → Int32)) (cheights : (Nat → Int32)) (originals : (Nat → Int32)) (orients : (Nat → Int32)) (i1 : Int32) (i2 : Int32) (u : Int32) (h : f_X3_boxWidth S cwidths cheights i1 i2 = some u) : g_Ct l yX3_boxWidth cX3_boxWidth 3 (some .int) 1 20 D g [.ref (a o), .int i1, .int i2] (k_Packer g a o (aS oS) (aC oC) spW spH fr codes counts chFound chPage chCol chRow chTurned chFirst chSecond line ++ (k_State g aS oS S ++ (k_Catalog g aC oC lefts tops cwidths cheights originals orients))) (k_Packer g a o (aS oS) (aC oC) spW spH fr codes counts chFound chPage chCol chRow chTurned chFirst chSecond line ++ (k_State g aS oS S ++ (k_Catalog g aC oC lefts tops cwidths cheights originals orients))) (some (.int u)) := by
  refine g_start RX3 (by decide) rfl (Nat.le_of_ble_eq_true rfl) rfl ?_
  intro p e s m args below meth c A ls Q hQ hx hb hr hlk hml hown hT hK hA hw hl
  have hl : lv_has ls 3 [(0, .ref (a o)), (1, .int i1), (2, .int i2)] := hl
  unfold f_X3_boxWidth at h
  refine lv_iload_n hx hb dX3_boxWidth_0 rfl (lv_at hl 2 rfl) ?_
  obtain ⟨j25_1, ej25_1, h⟩ := g_jn_nm h
  have hj25_1 : ∀ (x1 : Int32) (H : Heap) (locs : List Loc) (ls : Array Slot), g_Wd D A s.heap H locs (k_Packer g a o (aS oS) (aC oC) spW spH fr codes counts chFound chPage chCol chRow chTurned chFirst chSecond line ++ (k_State g aS oS S ++ (k_Catalog g aC oC lefts tops cwidths cheights originals orients))) → lv_has ls 3 [(0, .ref (a o))] → j25_1 x1 = some u → W p l e (g_rm 1 20) s m args below meth c H locs 0 0 Q (F0 m 25 ls [.int x1]) := by
    intro x1 H locs ls hw hl h
    subst ej25_1
    dsimp only at h
    refine lv_aload_n hx hb dX3_boxWidth_25 rfl (lv_at hl 0 rfl) ?_
    refine g_get hx hb hT hK hown fl_X3_29 hw 0 rfl (v := .ref (aS oS)) rfl dX3_boxWidth_26 ?_
    refine g_get hx hb hT hK hown fl_X3_71 hw 7 rfl (v := .ref (aS (oS+6))) rfl dX3_boxWidth_29 ?_
    refine g_callV hx hb hml hown hT hK hA hw mk_X3_256 (c_X5_boxGrowth l D g aS (oS+6) (S 5 0) (S 5 1) (S 5 2) (S 5 3) (S 5 4) (S 5 5) (S 5 6) (S 5 7) (S 5 8) (S 5 9) (S 5 10) (S 5 11)) [13] rfl (by decide) 13 rfl rfl rfl hl.1 [.int x1] rfl (Nat.le_of_ble_eq_true rfl) ⟨Nat.le_of_ble_eq_true rfl, Nat.le_of_ble_eq_true rfl⟩ ⟨Nat.zero_le _, Nat.zero_le _⟩ dX3_boxWidth_32 (ws' := (k_Packer g a o (aS oS) (aC oC) spW spH fr codes counts chFound chPage chCol chRow chTurned chFirst chSecond line ++ (k_State g aS oS S ++ (k_Catalog g aC oC lefts tops cwidths cheights originals orients)))) rfl (st2 := [.int (f_X5_boxGrowth (S 5 3) (S 5 5)), .int x1]) rfl (fun H locs hw => ?_)
    refine lv_iadd hx hb dX3_boxWidth_35 ?_
    obtain rfl := Option.some.inj h
    exact g_iret hQ hx hb hr hlk hw rfl dX3_boxWidth_36
  refine lv_if_eq (tgt := 16) hx hb dX3_boxWidth_1 (by decide) (fun hc1 => ?_) (fun hc1 => ?_)
  · rw [if_pos hc1] at h
    refine lv_aload_n hx hb dX3_boxWidth_16 rfl (lv_at hl 0 rfl) ?_
    refine g_get hx hb hT hK hown fl_X3_33 hw 0 rfl (v := .ref (aC oC)) rfl dX3_boxWidth_17 ?_
    refine g_get hx hb hT hK hown fl_X3_191 hw 20 rfl (v := .ref (aC (oC+3))) rfl dX3_boxWidth_20 ?_
    refine lv_iload_n hx hb dX3_boxWidth_23 rfl (lv_at hl 1 rfl) ?_
    obtain ⟨x3, ex3, hix3, h⟩ := g_rd_some h
    refine g_iald hx hb hK hw 23 (f := cwidths) rfl hix3 ex3 dX3_boxWidth_24 ?_
    exact hj25_1 _ _ _ _ hw (lv_sub hl [0] rfl) h
  · rw [if_neg hc1] at h
    refine lv_aload_n hx hb dX3_boxWidth_4 rfl (lv_at hl 0 rfl) ?_
    refine g_get hx hb hT hK hown fl_X3_33 hw 0 rfl (v := .ref (aC oC)) rfl dX3_boxWidth_5 ?_
    refine g_get hx hb hT hK hown fl_X3_194 hw 20 rfl (v := .ref (aC (oC+4))) rfl dX3_boxWidth_8 ?_
    refine lv_iload_n hx hb dX3_boxWidth_11 rfl (lv_at hl 1 rfl) ?_
    obtain ⟨x4, ex4, hix4, h⟩ := g_rd_some h
    refine g_iald hx hb hK hw 24 (f := cheights) rfl hix4 ex4 dX3_boxWidth_12 ?_
    refine lv_goto (tgt := 25) hx hb dX3_boxWidth_13 (by decide) ?_
    exact hj25_1 _ _ _ _ hw (lv_sub hl [0] rfl) h
