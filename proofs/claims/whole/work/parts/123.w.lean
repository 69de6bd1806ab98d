set_option maxRecDepth 100000 in
set_option maxHeartbeats 4000000 in
theorem c_X10_isWithin (l : Launch) (D : va_G) (g : Nat → ClassId) (i1 : Int32) (i2 : Int32) (i3 : Int32) : b_Ct l yX10_isWithin cX10_isWithin 3 (some .boolean) 0 0 D g [.int i1, .int i2, .int i3] ([] : List va_W) ([] : List va_W) (some (.int (f_X10_isWithin i1 i2 i3))) := by
  refine b_start RX10 (by decide) rfl (Nat.le_of_ble_eq_true rfl) rfl ?_
  intro p e s m args below meth c A ls Q hQ hx hb hr hlk hml hown hT hK hA hw hl
  have hl : lv_has ls 3 [(0, .int i1), (1, .int i2), (2, .int i3)] := hl
  generalize h : f_X10_isWithin i1 i2 i3 = u at hQ
  unfold f_X10_isWithin at h
  refine lv_iload_n hx hb dX10_isWithin_0 rfl (lv_at hl 0 rfl) ?_
  refine lv_iload_n hx hb dX10_isWithin_1 rfl (lv_at hl 1 rfl) ?_
  refine lv_icmp_lt (tgt := 14) hx hb dX10_isWithin_2 (by decide) (fun hc2 => ?_) (fun hc2 => ?_)
  · rw [if_pos hc2] at h
    refine lv_iconst (v := 0) hx hb dX10_isWithin_14 (by decide) ?_
    obtain rfl := h
    exact b_zret hQ hx hb hr hlk (Or.inl rfl) hw rfl dX10_isWithin_15
  · rw [if_neg hc2] at h
    refine lv_iload_n hx hb dX10_isWithin_5 rfl (lv_at hl 0 rfl) ?_
    refine lv_iload_n hx hb dX10_isWithin_6 rfl (lv_at hl 2 rfl) ?_
    refine lv_icmp_gt (tgt := 14) hx hb dX10_isWithin_7 (by decide) (fun hc7 => ?_) (fun hc7 => ?_)
    · rw [if_pos hc7] at h
      refine lv_iconst (v := 0) hx hb dX10_isWithin_14 (by decide) ?_
      obtain rfl := h
      exact b_zret hQ hx hb hr hlk (Or.inl rfl) hw rfl dX10_isWithin_15
    · rw [if_neg hc7] at h
      refine lv_iconst (v := 1) hx hb dX10_isWithin_10 (by decide) ?_
      refine lv_goto (tgt := 15) hx hb dX10_isWithin_11 (by decide) ?_
      obtain rfl := h
      exact b_zret hQ hx hb hr hlk (Or.inr rfl) hw rfl dX10_isWithin_15
set_option maxRecDepth 100000 in
set_option maxHeartbeats 4000000 in
theorem c_X10_append (l : Launch) (D : va_G) (g : Nat → ClassId) (a : Nat → Nat) (rnd : Int64) (length : Int32) (tcodes : (Nat → Int32)) (i1 : Int32) (u : Int32 × Int32 × (Nat → Int32)) (h : f_X10_append length tcodes i1 = some u) : b_Ct l yX10_append cX10_append 2 (some .int) 1 22 D g [.ref (a 0), .int i1] [k_Atlas g a rnd, k_Text g a 1 length tcodes] [k_Atlas g a rnd, k_Text g a 1 u.2.1 u.2.2] (some (.int u.1)) := by
  refine b_start RX10 (by decide) rfl (Nat.le_of_ble_eq_true rfl) rfl ?_
  intro p e s m args below meth c A ls Q hQ hx hb hr hlk hml hown hT hK hA hw hl
  have hl : lv_has ls 2 [(0, .ref (a 0)), (1, .int i1)] := hl
  unfold f_X10_append at h
  refine lv_iload_n hx hb dX10_append_0 rfl (lv_at hl 1 rfl) ?_
  refine lv_bipush (v := 32) hx hb dX10_append_1 (by decide) ?_
  refine lv_bipush (v := 126) hx hb dX10_append_3 (by decide) ?_
  refine b_callS hx hb hml hown hT hK hA hw mk_X10_69 (c_X10_isWithin l D g i1 (32 : Int32) (126 : Int32)) [] [0, 1] rfl (by decide) rfl hl.1 [] rfl (Nat.le_of_ble_eq_true rfl) ⟨Nat.le_of_ble_eq_true rfl, Nat.le_of_ble_eq_true rfl⟩ ⟨Nat.zero_le _, Nat.zero_le _⟩ dX10_append_5 (wb' := [k_Atlas g a rnd, k_Text g a 1 length tcodes]) rfl (b_e1 rfl (b_e1 rfl b_e0)) 2 rfl (by decide) (st2 := [.int (f_X10_isWithin i1 (32 : Int32) (126 : Int32))]) rfl (fun H locs hw => ?_)
  refine lv_if_ne (tgt := 13) hx hb dX10_append_8 (by decide) (fun hc8 => ?_) (fun hc8 => ?_)
  · rw [if_neg hc8] at h
    refine lv_aload_n hx hb dX10_append_13 rfl (lv_at hl 0 rfl) ?_
    refine b_get hx hb hT hK hown fl_X10_12 hw 0 0 rfl rfl (v := .ref (a 1)) rfl dX10_append_14 ?_
    refine lv_iload_n hx hb dX10_append_17 rfl (lv_at hl 1 rfl) ?_
    obtain ⟨r1, er1, h⟩ := g_cl_some h
    refine b_callV hx hb hml hown hT hK hA hw mk_X10_73 (c_X9_add l D g a 1 length tcodes i1 r1 er1) [1] [0] rfl (by decide) 1 0 rfl rfl rfl rfl hl.1 [] rfl (Nat.le_of_ble_eq_true rfl) ⟨Nat.le_of_ble_eq_true rfl, Nat.le_of_ble_eq_true rfl⟩ ⟨Nat.zero_le _, Nat.zero_le _⟩ dX10_append_18 (wb' := [k_Atlas g a rnd, k_Text g a 1 r1.2.1 r1.2.2]) rfl (b_e1 rfl b_e0) 2 rfl (by decide) (st2 := [.int r1.1]) rfl (fun H locs hw => ?_)
    refine lv_if_eq (tgt := 34) hx hb dX10_append_21 (by decide) (fun hc21 => ?_) (fun hc21 => ?_)
    · rw [if_pos hc21] at h
      refine lv_bipush (v := -2) hx hb dX10_append_34 (by decide) ?_
      obtain rfl := Option.some.inj h
      exact b_iret hQ hx hb hr hlk hw rfl dX10_append_36
    · rw [if_neg hc21] at h
      refine lv_aload_n hx hb dX10_append_24 rfl (lv_at hl 0 rfl) ?_
      refine b_get hx hb hT hK hown fl_X10_12 hw 0 0 rfl rfl (v := .ref (a 1)) rfl dX10_append_25 ?_
      refine b_get hx hb hT hK hown fl_X10_77 hw 1 0 rfl rfl (v := .int r1.2.1) rfl dX10_append_28 ?_
      refine lv_goto (tgt := 36) hx hb dX10_append_31 (by decide) ?_
      obtain rfl := Option.some.inj h
      exact b_iret hQ hx hb hr hlk hw rfl dX10_append_36
  · rw [if_pos hc8] at h
    refine lv_iconst (v := -1) hx hb dX10_append_11 (by decide) ?_
    obtain rfl := Option.some.inj h
    exact b_iret hQ hx hb hr hlk hw rfl dX10_append_12
set_option maxRecDepth 100000 in
set_option maxHeartbeats 4000000 in
theorem c_X10_clearText (l : Launch) (D : va_G) (g : Nat → ClassId) (a : Nat → Nat) (rnd : Int64) (length : Int32) (tcodes : (Nat → Int32)) (u : Int32 × Int32) (h : f_X10_clearText length = u) : b_Ct l yX10_clearText cX10_clearText 2 (some .int) 0 0 D g [.ref (a 0)] [k_Atlas g a rnd, k_Text g a 1 length tcodes] [k_Atlas g a rnd, k_Text g a 1 u.2 tcodes] (some (.int u.1)) := by
  refine b_start RX10 (by decide) rfl (Nat.le_of_ble_eq_true rfl) rfl ?_
  intro p e s m args below meth c A ls Q hQ hx hb hr hlk hml hown hT hK hA hw hl
  have hl : lv_has ls 2 [(0, .ref (a 0))] := hl
  unfold f_X10_clearText at h
  refine lv_aload_n hx hb dX10_clearText_0 rfl (lv_at hl 0 rfl) ?_
  refine b_get hx hb hT hK hown fl_X10_12 hw 0 0 rfl rfl (v := .ref (a 1)) rfl dX10_clearText_1 ?_
  refine b_get hx hb hT hK hown fl_X10_77 hw 1 0 rfl rfl (v := .int length) rfl dX10_clearText_4 ?_
  refine lv_istore_n (lv' := [(1, .int length), (0, .ref (a 0))]) hx hb dX10_clearText_7 rfl hl (by decide) rfl (fun ls hl => ?_)
  refine lv_aload_n hx hb dX10_clearText_8 rfl (lv_at hl 1 rfl) ?_
  refine b_get hx hb hT hK hown fl_X10_12 hw 0 0 rfl rfl (v := .ref (a 1)) rfl dX10_clearText_9 ?_
  refine lv_iconst (v := 0) hx hb dX10_clearText_12 (by decide) ?_
  refine b_putf hx hb hT hK hown fl_X10_77 ft_X9 hw 1 0 rfl rfl rfl rfl rfl (Nat.le_of_ble_eq_true rfl) rfl (wb' := [k_Atlas g a rnd, k_Text g a 1 (0 : Int32) tcodes]) rfl dX10_clearText_13 (fun H locs hw => ?_)
  refine lv_iload_n hx hb dX10_clearText_16 rfl (lv_at hl 0 rfl) ?_
  obtain rfl := h
  exact b_iret hQ hx hb hr hlk hw rfl dX10_clearText_17
set_option maxRecDepth 100000 in
set_option maxHeartbeats 4000000 in
theorem c_X10_faultPosition (l : Launch) (D : va_G) (g : Nat → ClassId) (a : Nat → Nat) (rnd : Int64) (length : Int32) (tcodes : (Nat → Int32)) (u : Int32) (h : f_X10_faultPosition length tcodes = some u) : b_Ct l yX10_faultPosition cX10_faultPosition 1 (some .int) 2 46 D g [.ref (a 0)] [k_Atlas g a rnd, k_Text g a 1 length tcodes] [k_Atlas g a rnd, k_Text g a 1 length tcodes] (some (.int u)) := by
  refine b_start RX10 (by decide) rfl (Nat.le_of_ble_eq_true rfl) rfl ?_
  intro p e s m args below meth c A ls Q hQ hx hb hr hlk hml hown hT hK hA hw hl
  have hl : lv_has ls 1 [(0, .ref (a 0))] := hl
  unfold f_X10_faultPosition at h
  refine lv_aload_n hx hb dX10_faultPosition_0 rfl (lv_at hl 0 rfl) ?_
  refine b_get hx hb hT hK hown fl_X10_12 hw 0 0 rfl rfl (v := .ref (a 1)) rfl dX10_faultPosition_1 ?_
  obtain ⟨r1, er1, h⟩ := g_cl_some h
  refine b_callV hx hb hml hown hT hK hA hw mk_X10_81 (c_X9_findFault l D g a 1 length tcodes r1 er1) [1] [0] rfl (by decide) 1 0 rfl rfl rfl rfl hl.1 [] rfl (Nat.le_of_ble_eq_true rfl) ⟨Nat.le_of_ble_eq_true rfl, Nat.le_of_ble_eq_true rfl⟩ ⟨Nat.zero_le _, Nat.zero_le _⟩ dX10_faultPosition_4 (wb' := [k_Atlas g a rnd, k_Text g a 1 length tcodes]) rfl (b_e1 rfl b_e0) 2 rfl (by decide) (st2 := [.int r1]) rfl (fun H locs hw => ?_)
  obtain rfl := Option.some.inj h
  exact b_iret hQ hx hb hr hlk hw rfl dX10_faultPosition_7
set_option maxRecDepth 100000 in
set_option maxHeartbeats 4000000 in
theorem c_X10_read (l : Launch) (D : va_G) (g : Nat → ClassId) (a : Nat → Nat) (rnd : Int64) (length : Int32) (tcodes : (Nat → Int32)) (S : Nat → Nat → Int32) (lefts : (Nat → Int32)) (tops : (Nat → Int32)) (cwidths : (Nat → Int32)) (cheights : (Nat → Int32)) (originals : (Nat → Int32)) (orients : (Nat → Int32)) (hLatest : Int32) (hCount : Int32) (H0 : Nat → Nat → Int32) (H1 : Nat → Nat → Int32) (H2 : Nat → Nat → Int32) (H3 : Nat → Nat → Int32) (H4 : Nat → Nat → Int32) (u : Int32 × (Nat → Nat → Int32) × (Nat → Int32) × (Nat → Int32) × (Nat → Int32) × (Nat → Int32) × (Nat → Int32) × (Nat → Int32) × Int32 × Int32 × (Nat → Nat → Int32) × (Nat → Nat → Int32) × (Nat → Nat → Int32) × (Nat → Nat → Int32) × (Nat → Nat → Int32)) (h : f_X10_read length tcodes S lefts tops cwidths cheights originals orients hLatest hCount H0 H1 H2 H3 H4 = some u) : b_Ct l yX10_read cX10_read 1 (some .int) 5 131 D g [.ref (a 0)] [k_Atlas g a rnd, k_Text g a 1 length tcodes, k_StO g a 4, k_Sheet g a 5 (S 0 0) (S 1) (S 2) (S 3) (S 4), k_Settings g a 10 (S 5 0) (S 5 1) (S 5 2) (S 5 3) (S 5 4) (S 5 5) (S 5 6) (S 5 7) (S 5 8) (S 5 9) (S 5 10) (S 5 11), k_Places g a 11 (S 6 0) (S 7) (S 8) (S 9) (S 10) (S 11), k_Catalog g a 30 lefts tops cwidths cheights originals orients, k_Hist g a 51 hLatest hCount, k_StO g a 53, k_Sheet g a 54 (H0 0 0) (H0 1) (H0 2) (H0 3) (H0 4), k_Settings g a 59 (H0 5 0) (H0 5 1) (H0 5 2) (H0 5 3) (H0 5 4) (H0 5 5) (H0 5 6) (H0 5 7) (H0 5 8) (H0 5 9) (H0 5 10) (H0 5 11), k_Places g a 60 (H0 6 0) (H0 7) (H0 8) (H0 9) (H0 10) (H0 11), k_StO g a 66, k_Sheet g a 67 (H1 0 0) (H1 1) (H1 2) (H1 3) (H1 4), k_Settings g a 72 (H1 5 0) (H1 5 1) (H1 5 2) (H1 5 3) (H1 5 4) (H1 5 5) (H1 5 6) (H1 5 7) (H1 5 8) (H1 5 9) (H1 5 10) (H1 5 11), k_Places g a 73 (H1 6 0) (H1 7) (H1 8) (H1 9) (H1 10) (H1 11), k_StO g a 79, k_Sheet g a 80 (H2 0 0) (H2 1) (H2 2) (H2 3) (H2 4), k_Settings g a 85 (H2 5 0) (H2 5 1) (H2 5 2) (H2 5 3) (H2 5 4) (H2 5 5) (H2 5 6) (H2 5 7) (H2 5 8) (H2 5 9) (H2 5 10) (H2 5 11), k_Places g a 86 (H2 6 0) (H2 7) (H2 8) (H2 9) (H2 10) (H2 11), k_StO g a 92, k_Sheet g a 93 (H3 0 0) (H3 1) (H3 2) (H3 3) (H3 4), k_Settings g a 98 (H3 5 0) (H3 5 1) (H3 5 2) (H3 5 3) (H3 5 4) (H3 5 5) (H3 5 6) (H3 5 7) (H3 5 8) (H3 5 9) (H3 5 10) (H3 5 11), k_Places g a 99 (H3 6 0) (H3 7) (H3 8) (H3 9) (H3 10) (H3 11), k_StO g a 105, k_Sheet g a 106 (H4 0 0) (H4 1) (H4 2) (H4 3) (H4 4), k_Settings g a 111 (H4 5 0) (H4 5 1) (H4 5 2) (H4 5 3) (H4 5 4) (H4 5 5) (H4 5 6) (H4 5 7) (H4 5 8) (H4 5 9) (H4 5 10) (H4 5 11), k_Places g a 112 (H4 6 0) (H4 7) (H4 8) (H4 9) (H4 10) (H4 11)] [k_Atlas g a rnd, k_Text g a 1 length tcodes, k_StO g a 4, k_Sheet g a 5 (u.2.1 0 0) (u.2.1 1) (u.2.1 2) (u.2.1 3) (u.2.1 4), k_Settings g a 10 (S 5 0) (S 5 1) (S 5 2) (S 5 3) (S 5 4) (S 5 5) (S 5 6) (S 5 7) (S 5 8) (S 5 9) (S 5 10) (S 5 11), k_Places g a 11 (S 6 0) (S 7) (S 8) (S 9) (S 10) (S 11), k_Catalog g a 30 u.2.2.1 u.2.2.2.1 u.2.2.2.2.1 u.2.2.2.2.2.1 u.2.2.2.2.2.2.1 u.2.2.2.2.2.2.2.1, k_Hist g a 51 u.2.2.2.2.2.2.2.2.1 u.2.2.2.2.2.2.2.2.2.1, k_StO g a 53, k_Sheet g a 54 (u.2.2.2.2.2.2.2.2.2.2.1 0 0) (u.2.2.2.2.2.2.2.2.2.2.1 1) (u.2.2.2.2.2.2.2.2.2.2.1 2) (u.2.2.2.2.2.2.2.2.2.2.1 3) (u.2.2.2.2.2.2.2.2.2.2.1 4), k_Settings g a 59 (u.2.2.2.2.2.2.2.2.2.2.1 5 0) (u.2.2.2.2.2.2.2.2.2.2.1 5 1) (u.2.2.2.2.2.2.2.2.2.2.1 5 2) (u.2.2.2.2.2.2.2.2.2.2.1 5 3) (u.2.2.2.2.2.2.2.2.2.2.1 5 4) (u.2.2.2.2.2.2.2.2.2.2.1 5 5) (u.2.2.2.2.2.2.2.2.2.2.1 5 6) (u.2.2.2.2.2.2.2.2.2.2.1 5 7) (u.2.2.2.2.2.2.2.2.2.2.1 5 8) (u.2.2.2.2.2.2.2.2.2.2.1 5 9) (u.2.2.2.2.2.2.2.2.2.2.1 5 10) (u.2.2.2.2.2.2.2.2.2.2.1 5 11), k_Places g a 60 (u.2.2.2.2.2.2.2.2.2.2.1 6 0) (u.2.2.2.2.2.2.2.2.2.2.1 7) (u.2.2.2.2.2.2.2.2.2.2.1 8) (u.2.2.2.2.2.2.2.2.2.2.1 9) (u.2.2.2.2.2.2.2.2.2.2.1 10) (u.2.2.2.2.2.2.2.2.2.2.1 11), k_StO g a 66, k_Sheet g a 67 (u.2.2.2.2.2.2.2.2.2.2.2.1 0 0) (u.2.2.2.2.2.2.2.2.2.2.2.1 1) (u.2.2.2.2.2.2.2.2.2.2.2.1 2) (u.2.2.2.2.2.2.2.2.2.2.2.1 3) (u.2.2.2.2.2.2.2.2.2.2.2.1 4), k_Settings g a 72 (u.2.2.2.2.2.2.2.2.2.2.2.1 5 0) (u.2.2.2.2.2.2.2.2.2.2.2.1 5 1) (u.2.2.2.2.2.2.2.2.2.2.2.1 5 2) (u.2.2.2.2.2.2.2.2.2.2.2.1 5 3) (u.2.2.2.2.2.2.2.2.2.2.2.1 5 4) (u.2.2.2.2.2.2.2.2.2.2.2.1 5 5) (u.2.2.2.2.2.2.2.2.2.2.2.1 5 6) (u.2.2.2.2.2.2.2.2.2.2.2.1 5 7) (u.2.2.2.2.2.2.2.2.2.2.2.1 5 8) (u.2.2.2.2.2.2.2.2.2.2.2.1 5 9) (u.2.2.2.2.2.2.2.2.2.2.2.1 5 10) (u.2.2.2.2.2.2.2.2.2.2.2.1 5 11), k_Places g a 73 (u.2.2.2.2.2.2.2.2.2.2.2.1 6 0) (u.2.2.2.2.2.2.2.2.2.2.2.1 7) (u.2.2.2.2.2.2.2.2.2.2.2.1 8) (u.2.2.2.2.2.2.2.2.2.2.2.1 9) (u.2.2.2.2.2.2.2.2.2.2.2.1 10) (u.2.2.2.2.2.2.2.2.2.2.2.1 11), k_StO g a 79, k_Sheet g a 80 (u.2.2.2.2.2.2.2.2.2.2.2.2.1 0 0) (u.2.2.2.2.2.2.2.2.2.2.2.2.1 1) (u.2.2.2.2.2.2.2.2.2.2.2.2.1 2) (u.2.2.2.2.2.2.2.2.2.2.2.2.1 3) (u.2.2.2.2.2.2.2.2.2.2.2.2.1 4), k_Settings g a 85 (u.2.2.2.2.2.2.2.2.2.2.2.2.1 5 0) (u.2.2.2.2.2.2.2.2.2.2.2.2.1 5 1) (u.2.2.2.2.2.2.2.2.2.2.2.2.1 5 2) (u.2.2.2.2.2.2.2.2.2.2.2.2.1 5 3) (u.2.2.2.2.2.2.2.2.2.2.2.2.1 5 4) (u.2.2.2.2.2.2.2.2.2.2.2.2.1 5 5) (u.2.2.2.2.2.2.2.2.2.2.2.2.1 5 6) (u.2.2.2.2.2.2.2.2.2.2.2.2.1 5 7) (u.2.2.2.2.2.2.2.2.2.2.2.2.1 5 8) (u.2.2.2.2.2.2.2.2.2.2.2.2.1 5 9) (u.2.2.2.2.2.2.2.2.2.2.2.2.1 5 10) (u.2.2.2.2.2.2.2.2.2.2.2.2.1 5 11), k_Places g a 86 (u.2.2.2.2.2.2.2.2.2.2.2.2.1 6 0) (u.2.2.2.2.2.2.2.2.2.2.2.2.1 7) (u.2.2.2.2.2.2.2.2.2.2.2.2.1 8) (u.2.2.2.2.2.2.2.2.2.2.2.2.1 9) (u.2.2.2.2.2.2.2.2.2.2.2.2.1 10) (u.2.2.2.2.2.2.2.2.2.2.2.2.1 11), k_StO g a 92, k_Sheet g a 93 (u.2.2.2.2.2.2.2.2.2.2.2.2.2.1 0 0) (u.2.2.2.2.2.2.2.2.2.2.2.2.2.1 1) (u.2.2.2.2.2.2.2.2.2.2.2.2.2.1 2) (u.2.2.2.2.2.2.2.2.2.2.2.2.2.1 3) (u.2.2.2.2.2.2.2.2.2.2.2.2.2.1 4), k_Settings g a 98 (u.2.2.2.2.2.2.2.2.2.2.2.2.2.1 5 0) (u.2.2.2.2.2.2.2.2.2.2.2.2.2.1 5 1) (u.2.2.2.2.2.2.2.2.2.2.2.2.2.1 5 2) (u.2.2.2.2.2.2.2.2.2.2.2.2.2.1 5 3) (u.2.2.2.2.2.2.2.2.2.2.2.2.2.1 5 4) (u.2.2.2.2.2.2.2.2.2.2.2.2.2.1 5 5) (u.2.2.2.2.2.2.2.2.2.2.2.2.2.1 5 6) (u.2.2.2.2.2.2.2.2.2.2.2.2.2.1 5 7) (u.2.2.2.2.2.2.2.2.2.2.2.2.2.1 5 8) (u.2.2.2.2.2.2.2.2.2.2.2.2.2.1 5 9) (u.2.2.2.2.2.2.2.2.2.2.2.2.2.1 5 10) (u.2.2.2.2.2.2.2.2.2.2.2.2.2.1 5 11), k_Places g a 99 (u.2.2.2.2.2.2.2.2.2.2.2.2.2.1 6 0) (u.2.2.2.2.2.2.2.2.2.2.2.2.2.1 7) (u.2.2.2.2.2.2.2.2.2.2.2.2.2.1 8) (u.2.2.2.2.2.2.2.2.2.2.2.2.2.1 9) (u.2.2.2.2.2.2.2.2.2.2.2.2.2.1 10) (u.2.2.2.2.2.2.2.2.2.2.2.2.2.1 11), k_StO g a 105, k_Sheet g a 106 (u.2.2.2.2.2.2.2.2.2.2.2.2.2.2 0 0) (u.2.2.2.2.2.2.2.2.2.2.2.2.2.2 1) (u.2.2.2.2.2.2.2.2.2.2.2.2.2.2 2) (u.2.2.2.2.2.2.2.2.2.2.2.2.2.2 3) (u.2.2.2.2.2.2.2.2.2.2.2.2.2.2 4), k_Settings g a 111 (u.2.2.2.2.2.2.2.2.2.2.2.2.2.2 5 0) (u.2.2.2.2.2.2.2.2.2.2.2.2.2.2 5 1) (u.2.2.2.2.2.2.2.2.2.2.2.2.2.2 5 2) (u.2.2.2.2.2.2.2.2.2.2.2.2.2.2 5 3) (u.2.2.2.2.2.2.2.2.2.2.2.2.2.2 5 4) (u.2.2.2.2.2.2.2.2.2.2.2.2.2.2 5 5) (u.2.2.2.2.2.2.2.2.2.2.2.2.2.2 5 6) (u.2.2.2.2.2.2.2.2.2.2.2.2.2.2 5 7) (u.2.2.2.2.2.2.2.2.2.2.2.2.2.2 5 8) (u.2.2.2.2.2.2.2.2.2.2.2.2.2.2 5 9) (u.2.2.2.2.2.2.2.2.2.2.2.2.2.2 5 10) (u.2.2.2.2.2.2.2.2.2.2.2.2.2.2 5 11), k_Places g a 112 (u.2.2.2.2.2.2.2.2.2.2.2.2.2.2 6 0) (u.2.2.2.2.2.2.2.2.2.2.2.2.2.2 7) (u.2.2.2.2.2.2.2.2.2.2.2.2.2.2 8) (u.2.2.2.2.2.2.2.2.2.2.2.2.2.2 9) (u.2.2.2.2.2.2.2.2.2.2.2.2.2.2 10) (u.2.2.2.2.2.2.2.2.2.2.2.2.2.2 11)] (some (.int u.1)) := by
  refine b_start RX10 (by decide) rfl (Nat.le_of_ble_eq_true rfl) rfl ?_
  intro p e s m args below meth c A ls Q hQ hx hb hr hlk hml hown hT hK hA hw hl
  have hl : lv_has ls 1 [(0, .ref (a 0))] := hl
  unfold f_X10_read at h
  refine lv_aload_n hx hb dX10_read_0 rfl (lv_at hl 0 rfl) ?_
  refine b_get hx hb hT hK hown fl_X10_12 hw 0 0 rfl rfl (v := .ref (a 1)) rfl dX10_read_1 ?_
  obtain ⟨r1, er1, h⟩ := g_cl_some h
  refine b_callV hx hb hml hown hT hK hA hw mk_X10_81 (c_X9_findFault l D g a 1 length tcodes r1 er1) [1] [0, 2, 3, 4, 5, 6, 7, 8, 9, 10, 11, 12, 13, 14, 15, 16, 17, 18, 19, 20, 21, 22, 23, 24, 25, 26, 27] rfl (by decide) 1 0 rfl rfl rfl rfl hl.1 [] rfl (Nat.le_of_ble_eq_true rfl) ⟨Nat.le_of_ble_eq_true rfl, Nat.le_of_ble_eq_true rfl⟩ ⟨Nat.zero_le _, Nat.zero_le _⟩ dX10_read_4 (wb' := [k_Atlas g a rnd, k_Text g a 1 length tcodes, k_StO g a 4, k_Sheet g a 5 (S 0 0) (S 1) (S 2) (S 3) (S 4), k_Settings g a 10 (S 5 0) (S 5 1) (S 5 2) (S 5 3) (S 5 4) (S 5 5) (S 5 6) (S 5 7) (S 5 8) (S 5 9) (S 5 10) (S 5 11), k_Places g a 11 (S 6 0) (S 7) (S 8) (S 9) (S 10) (S 11), k_Catalog g a 30 lefts tops cwidths cheights originals orients, k_Hist g a 51 hLatest hCount, k_StO g a 53, k_Sheet g a 54 (H0 0 0) (H0 1) (H0 2) (H0 3) (H0 4), k_Settings g a 59 (H0 5 0) (H0 5 1) (H0 5 2) (H0 5 3) (H0 5 4) (H0 5 5) (H0 5 6) (H0 5 7) (H0 5 8) (H0 5 9) (H0 5 10) (H0 5 11), k_Places g a 60 (H0 6 0) (H0 7) (H0 8) (H0 9) (H0 10) (H0 11), k_StO g a 66, k_Sheet g a 67 (H1 0 0) (H1 1) (H1 2) (H1 3) (H1 4), k_Settings g a 72 (H1 5 0) (H1 5 1) (H1 5 2) (H1 5 3) (H1 5 4) (H1 5 5) (H1 5 6) (H1 5 7) (H1 5 8) (H1 5 9) (H1 5 10) (H1 5 11), k_Places g a 73 (H1 6 0) (H1 7) (H1 8) (H1 9) (H1 10) (H1 11), k_StO g a 79, k_Sheet g a 80 (H2 0 0) (H2 1) (H2 2) (H2 3) (H2 4), k_Settings g a 85 (H2 5 0) (H2 5 1) (H2 5 2) (H2 5 3) (H2 5 4) (H2 5 5) (H2 5 6) (H2 5 7) (H2 5 8) (H2 5 9) (H2 5 10) (H2 5 11), k_Places g a 86 (H2 6 0) (H2 7) (H2 8) (H2 9) (H2 10) (H2 11), k_StO g a 92, k_Sheet g a 93 (H3 0 0) (H3 1) (H3 2) (H3 3) (H3 4), k_Settings g a 98 (H3 5 0) (H3 5 1) (H3 5 2) (H3 5 3) (H3 5 4) (H3 5 5) (H3 5 6) (H3 5 7) (H3 5 8) (H3 5 9) (H3 5 10) (H3 5 11), k_Places g a 99 (H3 6 0) (H3 7) (H3 8) (H3 9) (H3 10) (H3 11), k_StO g a 105, k_Sheet g a 106 (H4 0 0) (H4 1) (H4 2) (H4 3) (H4 4), k_Settings g a 111 (H4 5 0) (H4 5 1) (H4 5 2) (H4 5 3) (H4 5 4) (H4 5 5) (H4 5 6) (H4 5 7) (H4 5 8) (H4 5 9) (H4 5 10) (H4 5 11), k_Places g a 112 (H4 6 0) (H4 7) (H4 8) (H4 9) (H4 10) (H4 11)]) rfl (b_e1 rfl (b_e1 rfl (b_e1 rfl (b_e1 rfl (b_e1 rfl (b_e1 rfl (b_e1 rfl (b_e1 rfl (b_e1 rfl (b_e1 rfl (b_e1 rfl (b_e1 rfl (b_e1 rfl (b_e1 rfl (b_e1 rfl (b_e1 rfl (b_e1 rfl (b_e1 rfl (b_e1 rfl (b_e1 rfl (b_e1 rfl (b_e1 rfl (b_e1 rfl (b_e1 rfl (b_e1 rfl (b_e1 rfl (b_e1 rfl b_e0))))))))))))))))))))))))))) 28 rfl (by decide) (st2 := [.int r1]) rfl (fun H locs hw => ?_)
  refine lv_bipush (v := -4) hx hb dX10_read_7 (by decide) ?_
  refine lv_icmp_eq (tgt := 15) hx hb dX10_read_9 (by decide) (fun hc9 => ?_) (fun hc9 => ?_)
  · rw [if_pos hc9] at h
    refine lv_aload_n hx hb dX10_read_15 rfl (lv_at hl 0 rfl) ?_
    refine b_get hx hb hT hK hown fl_X10_47 hw 0 0 rfl rfl (v := .ref (a 4)) rfl dX10_read_16 ?_
    refine b_get hx hb hT hK hown fl_X10_85 hw 2 0 rfl rfl (v := .ref (a 5)) rfl dX10_read_19 ?_
    refine b_get hx hb hT hK hown fl_X10_89 hw 3 0 rfl rfl (v := .int (S 0 0)) rfl dX10_read_22 ?_
    refine lv_aload_n hx hb dX10_read_25 rfl (lv_at hl 0 rfl) ?_
    refine b_get hx hb hT hK hown fl_X10_12 hw 0 0 rfl rfl (v := .ref (a 1)) rfl dX10_read_26 ?_
    obtain ⟨r2, er2, h⟩ := g_cl_some h
    refine b_callV hx hb hml hown hT hK hA hw mk_X10_94 (c_X9_countImages l D g a 1 length tcodes r2 er2) [1] [0, 2, 3, 4, 5, 6, 7, 8, 9, 10, 11, 12, 13, 14, 15, 16, 17, 18, 19, 20, 21, 22, 23, 24, 25, 26, 27] rfl (by decide) 1 0 rfl rfl rfl rfl hl.1 [.int (S 0 0)] rfl (Nat.le_of_ble_eq_true rfl) ⟨Nat.le_of_ble_eq_true rfl, Nat.le_of_ble_eq_true rfl⟩ ⟨Nat.zero_le _, Nat.zero_le _⟩ dX10_read_29 (wb' := [k_Atlas g a rnd, k_Text g a 1 length tcodes, k_StO g a 4, k_Sheet g a 5 (S 0 0) (S 1) (S 2) (S 3) (S 4), k_Settings g a 10 (S 5 0) (S 5 1) (S 5 2) (S 5 3) (S 5 4) (S 5 5) (S 5 6) (S 5 7) (S 5 8) (S 5 9) (S 5 10) (S 5 11), k_Places g a 11 (S 6 0) (S 7) (S 8) (S 9) (S 10) (S 11), k_Catalog g a 30 lefts tops cwidths cheights originals orients, k_Hist g a 51 hLatest hCount, k_StO g a 53, k_Sheet g a 54 (H0 0 0) (H0 1) (H0 2) (H0 3) (H0 4), k_Settings g a 59 (H0 5 0) (H0 5 1) (H0 5 2) (H0 5 3) (H0 5 4) (H0 5 5) (H0 5 6) (H0 5 7) (H0 5 8) (H0 5 9) (H0 5 10) (H0 5 11), k_Places g a 60 (H0 6 0) (H0 7) (H0 8) (H0 9) (H0 10) (H0 11), k_StO g a 66, k_Sheet g a 67 (H1 0 0) (H1 1) (H1 2) (H1 3) (H1 4), k_Settings g a 72 (H1 5 0) (H1 5 1) (H1 5 2) (H1 5 3) (H1 5 4) (H1 5 5) (H1 5 6) (H1 5 7) (H1 5 8) (H1 5 9) (H1 5 10) (H1 5 11), k_Places g a 73 (H1 6 0) (H1 7) (H1 8) (H1 9) (H1 10) (H1 11), k_StO g a 79, k_Sheet g a 80 (H2 0 0) (H2 1) (H2 2) (H2 3) (H2 4), k_Settings g a 85 (H2 5 0) (H2 5 1) (H2 5 2) (H2 5 3) (H2 5 4) (H2 5 5) (H2 5 6) (H2 5 7) (H2 5 8) (H2 5 9) (H2 5 10) (H2 5 11), k_Places g a 86 (H2 6 0) (H2 7) (H2 8) (H2 9) (H2 10) (H2 11), k_StO g a 92, k_Sheet g a 93 (H3 0 0) (H3 1) (H3 2) (H3 3) (H3 4), k_Settings g a 98 (H3 5 0) (H3 5 1) (H3 5 2) (H3 5 3) (H3 5 4) (H3 5 5) (H3 5 6) (H3 5 7) (H3 5 8) (H3 5 9) (H3 5 10) (H3 5 11), k_Places g a 99 (H3 6 0) (H3 7) (H3 8) (H3 9) (H3 10) (H3 11), k_StO g a 105, k_Sheet g a 106 (H4 0 0) (H4 1) (H4 2) (H4 3) (H4 4), k_Settings g a 111 (H4 5 0) (H4 5 1) (H4 5 2) (H4 5 3) (H4 5 4) (H4 5 5) (H4 5 6) (H4 5 7) (H4 5 8) (H4 5 9) (H4 5 10) (H4 5 11), k_Places g a 112 (H4 6 0) (H4 7) (H4 8) (H4 9) (H4 10) (H4 11)]) rfl (b_e1 rfl (b_e1 rfl (b_e1 rfl (b_e1 rfl (b_e1 rfl (b_e1 rfl (b_e1 rfl (b_e1 rfl (b_e1 rfl (b_e1 rfl (b_e1 rfl (b_e1 rfl (b_e1 rfl (b_e1 rfl (b_e1 rfl (b_e1 rfl (b_e1 rfl (b_e1 rfl (b_e1 rfl (b_e1 rfl (b_e1 rfl (b_e1 rfl (b_e1 rfl (b_e1 rfl (b_e1 rfl (b_e1 rfl (b_e1 rfl b_e0))))))))))))))))))))))))))) 28 rfl (by decide) (st2 := [.int r2, .int (S 0 0)]) rfl (fun H locs hw => ?_)
    refine lv_iadd hx hb dX10_read_32 ?_
    refine lv_bipush (v := 24) hx hb dX10_read_33 (by decide) ?_
    refine lv_icmp_le (tgt := 41) hx hb dX10_read_35 (by decide) (fun hc35 => ?_) (fun hc35 => ?_)
    · rw [if_pos hc35] at h
      refine lv_aload_n hx hb dX10_read_41 rfl (lv_at hl 0 rfl) ?_
      refine b_get hx hb hT hK hown fl_X10_26 hw 0 0 rfl rfl (v := .ref (a 51)) rfl dX10_read_42 ?_
      refine lv_aload_n hx hb dX10_read_45 rfl (lv_at hl 0 rfl) ?_
      refine b_get hx hb hT hK hown fl_X10_47 hw 0 0 rfl rfl (v := .ref (a 4)) rfl dX10_read_46 ?_
      obtain ⟨r3, er3, h⟩ := g_cl_some h
      refine b_callV hx hb hml hown hT hK hA hw mk_X10_97 (c_X2_record l D g a 51 a 4 hLatest hCount H0 H1 H2 H3 H4 S r3 er3) [7, 8, 9, 10, 11, 12, 13, 14, 15, 16, 17, 18, 19, 20, 21, 22, 23, 24, 25, 26, 27, 2, 3, 4, 5] [0, 1, 6] rfl (by decide) 7 0 rfl rfl rfl rfl hl.1 [] rfl (Nat.le_of_ble_eq_true rfl) ⟨Nat.le_of_ble_eq_true rfl, Nat.le_of_ble_eq_true rfl⟩ ⟨Nat.zero_le _, Nat.zero_le _⟩ dX10_read_49 (wb' := [k_Atlas g a rnd, k_Text g a 1 length tcodes, k_StO g a 4, k_Sheet g a 5 (S 0 0) (S 1) (S 2) (S 3) (S 4), k_Settings g a 10 (S 5 0) (S 5 1) (S 5 2) (S 5 3) (S 5 4) (S 5 5) (S 5 6) (S 5 7) (S 5 8) (S 5 9) (S 5 10) (S 5 11), k_Places g a 11 (S 6 0) (S 7) (S 8) (S 9) (S 10) (S 11), k_Catalog g a 30 lefts tops cwidths cheights originals orients, k_Hist g a 51 r3.1 r3.2.1, k_StO g a 53, k_Sheet g a 54 (r3.2.2.1 0 0) (r3.2.2.1 1) (r3.2.2.1 2) (r3.2.2.1 3) (r3.2.2.1 4), k_Settings g a 59 (r3.2.2.1 5 0) (r3.2.2.1 5 1) (r3.2.2.1 5 2) (r3.2.2.1 5 3) (r3.2.2.1 5 4) (r3.2.2.1 5 5) (r3.2.2.1 5 6) (r3.2.2.1 5 7) (r3.2.2.1 5 8) (r3.2.2.1 5 9) (r3.2.2.1 5 10) (r3.2.2.1 5 11), k_Places g a 60 (r3.2.2.1 6 0) (r3.2.2.1 7) (r3.2.2.1 8) (r3.2.2.1 9) (r3.2.2.1 10) (r3.2.2.1 11), k_StO g a 66, k_Sheet g a 67 (r3.2.2.2.1 0 0) (r3.2.2.2.1 1) (r3.2.2.2.1 2) (r3.2.2.2.1 3) (r3.2.2.2.1 4), k_Settings g a 72 (r3.2.2.2.1 5 0) (r3.2.2.2.1 5 1) (r3.2.2.2.1 5 2) (r3.2.2.2.1 5 3) (r3.2.2.2.1 5 4) (r3.2.2.2.1 5 5) (r3.2.2.2.1 5 6) (r3.2.2.2.1 5 7) (r3.2.2.2.1 5 8) (r3.2.2.2.1 5 9) (r3.2.2.2.1 5 10) (r3.2.2.2.1 5 11), k_Places g a 73 (r3.2.2.2.1 6 0) (r3.2.2.2.1 7) (r3.2.2.2.1 8) (r3.2.2.2.1 9) (r3.2.2.2.1 10) (r3.2.2.2.1 11), k_StO g a 79, k_Sheet g a 80 (r3.2.2.2.2.1 0 0) (r3.2.2.2.2.1 1) (r3.2.2.2.2.1 2) (r3.2.2.2.2.1 3) (r3.2.2.2.2.1 4), k_Settings g a 85 (r3.2.2.2.2.1 5 0) (r3.2.2.2.2.1 5 1) (r3.2.2.2.2.1 5 2) (r3.2.2.2.2.1 5 3) (r3.2.2.2.2.1 5 4) (r3.2.2.2.2.1 5 5) (r3.2.2.2.2.1 5 6) (r3.2.2.2.2.1 5 7) (r3.2.2.2.2.1 5 8) (r3.2.2.2.2.1 5 9) (r3.2.2.2.2.1 5 10) (r3.2.2.2.2.1 5 11), k_Places g a 86 (r3.2.2.2.2.1 6 0) (r3.2.2.2.2.1 7) (r3.2.2.2.2.1 8) (r3.2.2.2.2.1 9) (r3.2.2.2.2.1 10) (r3.2.2.2.2.1 11), k_StO g a 92, k_Sheet g a 93 (r3.2.2.2.2.2.1 0 0) (r3.2.2.2.2.2.1 1) (r3.2.2.2.2.2.1 2) (r3.2.2.2.2.2.1 3) (r3.2.2.2.2.2.1 4), k_Settings g a 98 (r3.2.2.2.2.2.1 5 0) (r3.2.2.2.2.2.1 5 1) (r3.2.2.2.2.2.1 5 2) (r3.2.2.2.2.2.1 5 3) (r3.2.2.2.2.2.1 5 4) (r3.2.2.2.2.2.1 5 5) (r3.2.2.2.2.2.1 5 6) (r3.2.2.2.2.2.1 5 7) (r3.2.2.2.2.2.1 5 8) (r3.2.2.2.2.2.1 5 9) (r3.2.2.2.2.2.1 5 10) (r3.2.2.2.2.2.1 5 11), k_Places g a 99 (r3.2.2.2.2.2.1 6 0) (r3.2.2.2.2.2.1 7) (r3.2.2.2.2.2.1 8) (r3.2.2.2.2.2.1 9) (r3.2.2.2.2.2.1 10) (r3.2.2.2.2.2.1 11), k_StO g a 105, k_Sheet g a 106 (r3.2.2.2.2.2.2 0 0) (r3.2.2.2.2.2.2 1) (r3.2.2.2.2.2.2 2) (r3.2.2.2.2.2.2 3) (r3.2.2.2.2.2.2 4), k_Settings g a 111 (r3.2.2.2.2.2.2 5 0) (r3.2.2.2.2.2.2 5 1) (r3.2.2.2.2.2.2 5 2) (r3.2.2.2.2.2.2 5 3) (r3.2.2.2.2.2.2 5 4) (r3.2.2.2.2.2.2 5 5) (r3.2.2.2.2.2.2 5 6) (r3.2.2.2.2.2.2 5 7) (r3.2.2.2.2.2.2 5 8) (r3.2.2.2.2.2.2 5 9) (r3.2.2.2.2.2.2 5 10) (r3.2.2.2.2.2.2 5 11), k_Places g a 112 (r3.2.2.2.2.2.2 6 0) (r3.2.2.2.2.2.2 7) (r3.2.2.2.2.2.2 8) (r3.2.2.2.2.2.2 9) (r3.2.2.2.2.2.2 10) (r3.2.2.2.2.2.2 11)]) rfl (b_e1 rfl (b_e1 rfl (b_e1 rfl b_e0))) 28 rfl (by decide) (st2 := []) rfl (fun H locs hw => ?_)
      refine lv_aload_n hx hb dX10_read_52 rfl (lv_at hl 0 rfl) ?_
      refine b_get hx hb hT hK hown fl_X10_12 hw 0 0 rfl rfl (v := .ref (a 1)) rfl dX10_read_53 ?_
      refine lv_aload_n hx hb dX10_read_56 rfl (lv_at hl 0 rfl) ?_
      refine b_get hx hb hT hK hown fl_X10_47 hw 0 0 rfl rfl (v := .ref (a 4)) rfl dX10_read_57 ?_
      refine b_get hx hb hT hK hown fl_X10_85 hw 2 0 rfl rfl (v := .ref (a 5)) rfl dX10_read_60 ?_
      obtain ⟨r4, er4, h⟩ := g_cl_some h
      refine b_callV hx hb hml hown hT hK hA hw mk_X10_101 (c_X9_addImagesTo l D g a 1 a 5 length tcodes (S 0 0) (S 1) (S 2) (S 3) (S 4) r4 er4) [1, 3] [0, 2, 4, 5, 6, 7, 8, 9, 10, 11, 12, 13, 14, 15, 16, 17, 18, 19, 20, 21, 22, 23, 24, 25, 26, 27] rfl (by decide) 1 0 rfl rfl rfl rfl hl.1 [] rfl (Nat.le_of_ble_eq_true rfl) ⟨Nat.le_of_ble_eq_true rfl, Nat.le_of_ble_eq_true rfl⟩ ⟨Nat.zero_le _, Nat.zero_le _⟩ dX10_read_63 (wb' := [k_Atlas g a rnd, k_Text g a 1 length tcodes, k_StO g a 4, k_Sheet g a 5 r4.1 r4.2.1 r4.2.2.1 r4.2.2.2.1 r4.2.2.2.2, k_Settings g a 10 (S 5 0) (S 5 1) (S 5 2) (S 5 3) (S 5 4) (S 5 5) (S 5 6) (S 5 7) (S 5 8) (S 5 9) (S 5 10) (S 5 11), k_Places g a 11 (S 6 0) (S 7) (S 8) (S 9) (S 10) (S 11), k_Catalog g a 30 lefts tops cwidths cheights originals orients, k_Hist g a 51 r3.1 r3.2.1, k_StO g a 53, k_Sheet g a 54 (r3.2.2.1 0 0) (r3.2.2.1 1) (r3.2.2.1 2) (r3.2.2.1 3) (r3.2.2.1 4), k_Settings g a 59 (r3.2.2.1 5 0) (r3.2.2.1 5 1) (r3.2.2.1 5 2) (r3.2.2.1 5 3) (r3.2.2.1 5 4) (r3.2.2.1 5 5) (r3.2.2.1 5 6) (r3.2.2.1 5 7) (r3.2.2.1 5 8) (r3.2.2.1 5 9) (r3.2.2.1 5 10) (r3.2.2.1 5 11), k_Places g a 60 (r3.2.2.1 6 0) (r3.2.2.1 7) (r3.2.2.1 8) (r3.2.2.1 9) (r3.2.2.1 10) (r3.2.2.1 11), k_StO g a 66, k_Sheet g a 67 (r3.2.2.2.1 0 0) (r3.2.2.2.1 1) (r3.2.2.2.1 2) (r3.2.2.2.1 3) (r3.2.2.2.1 4), k_Settings g a 72 (r3.2.2.2.1 5 0) (r3.2.2.2.1 5 1) (r3.2.2.2.1 5 2) (r3.2.2.2.1 5 3) (r3.2.2.2.1 5 4) (r3.2.2.2.1 5 5) (r3.2.2.2.1 5 6) (r3.2.2.2.1 5 7) (r3.2.2.2.1 5 8) (r3.2.2.2.1 5 9) (r3.2.2.2.1 5 10) (r3.2.2.2.1 5 11), k_Places g a 73 (r3.2.2.2.1 6 0) (r3.2.2.2.1 7) (r3.2.2.2.1 8) (r3.2.2.2.1 9) (r3.2.2.2.1 10) (r3.2.2.2.1 11), k_StO g a 79, k_Sheet g a 80 (r3.2.2.2.2.1 0 0) (r3.2.2.2.2.1 1) (r3.2.2.2.2.1 2) (r3.2.2.2.2.1 3) (r3.2.2.2.2.1 4), k_Settings g a 85 (r3.2.2.2.2.1 5 0) (r3.2.2.2.2.1 5 1) (r3.2.2.2.2.1 5 2) (r3.2.2.2.2.1 5 3) (r3.2.2.2.2.1 5 4) (r3.2.2.2.2.1 5 5) (r3.2.2.2.2.1 5 6) (r3.2.2.2.2.1 5 7) (r3.2.2.2.2.1 5 8) (r3.2.2.2.2.1 5 9) (r3.2.2.2.2.1 5 10) (r3.2.2.2.2.1 5 11), k_Places g a 86 (r3.2.2.2.2.1 6 0) (r3.2.2.2.2.1 7) (r3.2.2.2.2.1 8) (r3.2.2.2.2.1 9) (r3.2.2.2.2.1 10) (r3.2.2.2.2.1 11), k_StO g a 92, k_Sheet g a 93 (r3.2.2.2.2.2.1 0 0) (r3.2.2.2.2.2.1 1) (r3.2.2.2.2.2.1 2) (r3.2.2.2.2.2.1 3) (r3.2.2.2.2.2.1 4), k_Settings g a 98 (r3.2.2.2.2.2.1 5 0) (r3.2.2.2.2.2.1 5 1) (r3.2.2.2.2.2.1 5 2) (r3.2.2.2.2.2.1 5 3) (r3.2.2.2.2.2.1 5 4) (r3.2.2.2.2.2.1 5 5) (r3.2.2.2.2.2.1 5 6) (r3.2.2.2.2.2.1 5 7) (r3.2.2.2.2.2.1 5 8) (r3.2.2.2.2.2.1 5 9) (r3.2.2.2.2.2.1 5 10) (r3.2.2.2.2.2.1 5 11), k_Places g a 99 (r3.2.2.2.2.2.1 6 0) (r3.2.2.2.2.2.1 7) (r3.2.2.2.2.2.1 8) (r3.2.2.2.2.2.1 9) (r3.2.2.2.2.2.1 10) (r3.2.2.2.2.2.1 11), k_StO g a 105, k_Sheet g a 106 (r3.2.2.2.2.2.2 0 0) (r3.2.2.2.2.2.2 1) (r3.2.2.2.2.2.2 2) (r3.2.2.2.2.2.2 3) (r3.2.2.2.2.2.2 4), k_Settings g a 111 (r3.2.2.2.2.2.2 5 0) (r3.2.2.2.2.2.2 5 1) (r3.2.2.2.2.2.2 5 2) (r3.2.2.2.2.2.2 5 3) (r3.2.2.2.2.2.2 5 4) (r3.2.2.2.2.2.2 5 5) (r3.2.2.2.2.2.2 5 6) (r3.2.2.2.2.2.2 5 7) (r3.2.2.2.2.2.2 5 8) (r3.2.2.2.2.2.2 5 9) (r3.2.2.2.2.2.2 5 10) (r3.2.2.2.2.2.2 5 11), k_Places g a 112 (r3.2.2.2.2.2.2 6 0) (r3.2.2.2.2.2.2 7) (r3.2.2.2.2.2.2 8) (r3.2.2.2.2.2.2 9) (r3.2.2.2.2.2.2 10) (r3.2.2.2.2.2.2 11)]) rfl (b_e1 rfl (b_e1 rfl (b_e1 rfl (b_e1 rfl (b_e1 rfl (b_e1 rfl (b_e1 rfl (b_e1 rfl (b_e1 rfl (b_e1 rfl (b_e1 rfl (b_e1 rfl (b_e1 rfl (b_e1 rfl (b_e1 rfl (b_e1 rfl (b_e1 rfl (b_e1 rfl (b_e1 rfl (b_e1 rfl (b_e1 rfl (b_e1 rfl (b_e1 rfl (b_e1 rfl (b_e1 rfl (b_e1 rfl b_e0)))))))))))))))))))))))))) 28 rfl (by decide) (st2 := []) rfl (fun H locs hw => ?_)
      refine lv_aload_n hx hb dX10_read_66 rfl (lv_at hl 0 rfl) ?_
      refine b_get hx hb hT hK hown fl_X10_53 hw 0 0 rfl rfl (v := .ref (a 30)) rfl dX10_read_67 ?_
      refine lv_aload_n hx hb dX10_read_70 rfl (lv_at hl 0 rfl) ?_
      refine b_get hx hb hT hK hown fl_X10_47 hw 0 0 rfl rfl (v := .ref (a 4)) rfl dX10_read_71 ?_
      refine b_get hx hb hT hK hown fl_X10_85 hw 2 0 rfl rfl (v := .ref (a 5)) rfl dX10_read_74 ?_
      refine lv_aload_n hx hb dX10_read_77 rfl (lv_at hl 0 rfl) ?_
      refine b_get hx hb hT hK hown fl_X10_47 hw 0 0 rfl rfl (v := .ref (a 4)) rfl dX10_read_78 ?_
      refine b_get hx hb hT hK hown fl_X10_105 hw 2 0 rfl rfl (v := .ref (a 10)) rfl dX10_read_81 ?_
      obtain ⟨r5, er5, h⟩ := g_cl_some h
      refine b_callV hx hb hml hown hT hK hA hw mk_X10_109 (c_X0_study l D g a 30 a 5 a 10 lefts tops cwidths cheights originals orients r4.1 r4.2.1 r4.2.2.1 r4.2.2.2.1 r4.2.2.2.2 (S 5 0) (S 5 1) (S 5 2) (S 5 3) (S 5 4) (S 5 5) (S 5 6) (S 5 7) (S 5 8) (S 5 9) (S 5 10) (S 5 11) r5 er5) [6, 3, 4] [0, 1, 2, 5, 7, 8, 9, 10, 11, 12, 13, 14, 15, 16, 17, 18, 19, 20, 21, 22, 23, 24, 25, 26, 27] rfl (by decide) 6 0 rfl rfl rfl rfl hl.1 [] rfl (Nat.le_of_ble_eq_true rfl) ⟨Nat.le_of_ble_eq_true rfl, Nat.le_of_ble_eq_true rfl⟩ ⟨Nat.zero_le _, Nat.zero_le _⟩ dX10_read_84 (wb' := [k_Atlas g a rnd, k_Text g a 1 length tcodes, k_StO g a 4, k_Sheet g a 5 r4.1 r4.2.1 r4.2.2.1 r4.2.2.2.1 r4.2.2.2.2, k_Settings g a 10 (S 5 0) (S 5 1) (S 5 2) (S 5 3) (S 5 4) (S 5 5) (S 5 6) (S 5 7) (S 5 8) (S 5 9) (S 5 10) (S 5 11), k_Places g a 11 (S 6 0) (S 7) (S 8) (S 9) (S 10) (S 11), k_Catalog g a 30 r5.1 r5.2.1 r5.2.2.1 r5.2.2.2.1 r5.2.2.2.2.1 r5.2.2.2.2.2, k_Hist g a 51 r3.1 r3.2.1, k_StO g a 53, k_Sheet g a 54 (r3.2.2.1 0 0) (r3.2.2.1 1) (r3.2.2.1 2) (r3.2.2.1 3) (r3.2.2.1 4), k_Settings g a 59 (r3.2.2.1 5 0) (r3.2.2.1 5 1) (r3.2.2.1 5 2) (r3.2.2.1 5 3) (r3.2.2.1 5 4) (r3.2.2.1 5 5) (r3.2.2.1 5 6) (r3.2.2.1 5 7) (r3.2.2.1 5 8) (r3.2.2.1 5 9) (r3.2.2.1 5 10) (r3.2.2.1 5 11), k_Places g a 60 (r3.2.2.1 6 0) (r3.2.2.1 7) (r3.2.2.1 8) (r3.2.2.1 9) (r3.2.2.1 10) (r3.2.2.1 11), k_StO g a 66, k_Sheet g a 67 (r3.2.2.2.1 0 0) (r3.2.2.2.1 1) (r3.2.2.2.1 2) (r3.2.2.2.1 3) (r3.2.2.2.1 4), k_Settings g a 72 (r3.2.2.2.1 5 0) (r3.2.2.2.1 5 1) (r3.2.2.2.1 5 2) (r3.2.2.2.1 5 3) (r3.2.2.2.1 5 4) (r3.2.2.2.1 5 5) (r3.2.2.2.1 5 6) (r3.2.2.2.1 5 7) (r3.2.2.2.1 5 8) (r3.2.2.2.1 5 9) (r3.2.2.2.1 5 10) (r3.2.2.2.1 5 11), k_Places g a 73 (r3.2.2.2.1 6 0) (r3.2.2.2.1 7) (r3.2.2.2.1 8) (r3.2.2.2.1 9) (r3.2.2.2.1 10) (r3.2.2.2.1 11), k_StO g a 79, k_Sheet g a 80 (r3.2.2.2.2.1 0 0) (r3.2.2.2.2.1 1) (r3.2.2.2.2.1 2) (r3.2.2.2.2.1 3) (r3.2.2.2.2.1 4), k_Settings g a 85 (r3.2.2.2.2.1 5 0) (r3.2.2.2.2.1 5 1) (r3.2.2.2.2.1 5 2) (r3.2.2.2.2.1 5 3) (r3.2.2.2.2.1 5 4) (r3.2.2.2.2.1 5 5) (r3.2.2.2.2.1 5 6) (r3.2.2.2.2.1 5 7) (r3.2.2.2.2.1 5 8) (r3.2.2.2.2.1 5 9) (r3.2.2.2.2.1 5 10) (r3.2.2.2.2.1 5 11), k_Places g a 86 (r3.2.2.2.2.1 6 0) (r3.2.2.2.2.1 7) (r3.2.2.2.2.1 8) (r3.2.2.2.2.1 9) (r3.2.2.2.2.1 10) (r3.2.2.2.2.1 11), k_StO g a 92, k_Sheet g a 93 (r3.2.2.2.2.2.1 0 0) (r3.2.2.2.2.2.1 1) (r3.2.2.2.2.2.1 2) (r3.2.2.2.2.2.1 3) (r3.2.2.2.2.2.1 4), k_Settings g a 98 (r3.2.2.2.2.2.1 5 0) (r3.2.2.2.2.2.1 5 1) (r3.2.2.2.2.2.1 5 2) (r3.2.2.2.2.2.1 5 3) (r3.2.2.2.2.2.1 5 4) (r3.2.2.2.2.2.1 5 5) (r3.2.2.2.2.2.1 5 6) (r3.2.2.2.2.2.1 5 7) (r3.2.2.2.2.2.1 5 8) (r3.2.2.2.2.2.1 5 9) (r3.2.2.2.2.2.1 5 10) (r3.2.2.2.2.2.1 5 11), k_Places g a 99 (r3.2.2.2.2.2.1 6 0) (r3.2.2.2.2.2.1 7) (r3.2.2.2.2.2.1 8) (r3.2.2.2.2.2.1 9) (r3.2.2.2.2.2.1 10) (r3.2.2.2.2.2.1 11), k_StO g a 105, k_Sheet g a 106 (r3.2.2.2.2.2.2 0 0) (r3.2.2.2.2.2.2 1) (r3.2.2.2.2.2.2 2) (r3.2.2.2.2.2.2 3) (r3.2.2.2.2.2.2 4), k_Settings g a 111 (r3.2.2.2.2.2.2 5 0) (r3.2.2.2.2.2.2 5 1) (r3.2.2.2.2.2.2 5 2) (r3.2.2.2.2.2.2 5 3) (r3.2.2.2.2.2.2 5 4) (r3.2.2.2.2.2.2 5 5) (r3.2.2.2.2.2.2 5 6) (r3.2.2.2.2.2.2 5 7) (r3.2.2.2.2.2.2 5 8) (r3.2.2.2.2.2.2 5 9) (r3.2.2.2.2.2.2 5 10) (r3.2.2.2.2.2.2 5 11), k_Places g a 112 (r3.2.2.2.2.2.2 6 0) (r3.2.2.2.2.2.2 7) (r3.2.2.2.2.2.2 8) (r3.2.2.2.2.2.2 9) (r3.2.2.2.2.2.2 10) (r3.2.2.2.2.2.2 11)]) rfl (b_e1 rfl (b_e1 rfl (b_e1 rfl (b_e1 rfl (b_e1 rfl (b_e1 rfl (b_e1 rfl (b_e1 rfl (b_e1 rfl (b_e1 rfl (b_e1 rfl (b_e1 rfl (b_e1 rfl (b_e1 rfl (b_e1 rfl (b_e1 rfl (b_e1 rfl (b_e1 rfl (b_e1 rfl (b_e1 rfl (b_e1 rfl (b_e1 rfl (b_e1 rfl (b_e1 rfl (b_e1 rfl b_e0))))))))))))))))))))))))) 28 rfl (by decide) (st2 := []) rfl (fun H locs hw => ?_)
      refine lv_aload_n hx hb dX10_read_87 rfl (lv_at hl 0 rfl) ?_
      refine b_get hx hb hT hK hown fl_X10_47 hw 0 0 rfl rfl (v := .ref (a 4)) rfl dX10_read_88 ?_
      refine b_get hx hb hT hK hown fl_X10_85 hw 2 0 rfl rfl (v := .ref (a 5)) rfl dX10_read_91 ?_
      refine b_get hx hb hT hK hown fl_X10_89 hw 3 0 rfl rfl (v := .int r4.1) rfl dX10_read_94 ?_
      obtain rfl := Option.some.inj h
      exact b_iret hQ hx hb hr hlk hw rfl dX10_read_97
    · rw [if_neg hc35] at h
      refine lv_bipush (v := -2) hx hb dX10_read_38 (by decide) ?_
      obtain rfl := Option.some.inj h
      exact b_iret hQ hx hb hr hlk hw rfl dX10_read_40
  · rw [if_neg hc9] at h
    refine lv_bipush (v := -3) hx hb dX10_read_12 (by decide) ?_
    obtain rfl := Option.some.inj h
    exact b_iret hQ hx hb hr hlk hw rfl dX10_read_14
set_option maxRecDepth 100000 in
set_option maxHeartbeats 4000000 in
theorem c_X10_nextRandom (l : Launch) (D : va_G) (g : Nat → ClassId) (a : Nat → Nat) (rnd : Int64) (u : Int32 × Int64) (h : f_X10_nextRandom rnd = u) : b_Ct l yX10_nextRandom cX10_nextRandom 1 (some .int) 0 0 D g [.ref (a 0)] [k_Atlas g a rnd] [k_Atlas g a u.2] (some (.int u.1)) := by
  refine b_start RX10 (by decide) rfl (Nat.le_of_ble_eq_true rfl) rfl ?_
  intro p e s m args below meth c A ls Q hQ hx hb hr hlk hml hown hT hK hA hw hl
  have hl : lv_has ls 1 [(0, .ref (a 0))] := hl
  unfold f_X10_nextRandom at h
  refine lv_aload_n hx hb dX10_nextRandom_0 rfl (lv_at hl 0 rfl) ?_
  refine lv_aload_n hx hb dX10_nextRandom_1 rfl (lv_at hl 0 rfl) ?_
  refine b_get hx hb hT hK hown fl_X10_113 hw 0 0 rfl rfl (v := .long rnd) rfl dX10_nextRandom_2 ?_
  refine lv_ldc2 hx hb hown (hT _ kc_X10_388) dX10_nextRandom_5 ?_
  refine lv_lmul hx hb dX10_nextRandom_8 ?_
  refine lv_ldc2 hx hb hown (hT _ kc_X10_390) dX10_nextRandom_9 ?_
  refine lv_ladd hx hb dX10_nextRandom_12 ?_
  refine lv_ldc2 hx hb hown (hT _ kc_X10_392) dX10_nextRandom_13 ?_
  refine g_lrem hx hb dX10_nextRandom_16 (by decide) ?_
  obtain ⟨y1, ey1, h⟩ := g_bd_nm h
  refine g_topl ey1 ?_
  refine b_putf hx hb hT hK hown fl_X10_113 ft_X10 hw 0 0 rfl rfl rfl rfl rfl (Nat.le_of_ble_eq_true rfl) rfl (wb' := [k_Atlas g a y1]) rfl dX10_nextRandom_17 (fun H locs hw => ?_)
  refine lv_aload_n hx hb dX10_nextRandom_20 rfl (lv_at hl 0 rfl) ?_
  refine b_get hx hb hT hK hown fl_X10_113 hw 0 0 rfl rfl (v := .long y1) rfl dX10_nextRandom_21 ?_
  refine lv_ldc2 hx hb hown (hT _ kc_X10_394) dX10_nextRandom_24 ?_
  refine lv_ldiv hx hb dX10_nextRandom_27 (by decide) ?_
  refine lv_l2i hx hb dX10_nextRandom_28 rfl ?_
  obtain rfl := h
  exact b_iret hQ hx hb hr hlk hw rfl dX10_nextRandom_29
set_option maxRecDepth 100000 in
set_option maxHeartbeats 4000000 in
theorem c_X10_drawOne (l : Launch) (D : va_G) (g : Nat → ClassId) (a : Nat → Nat) (rnd : Int64) (S : Nat → Nat → Int32) (u : Int64 × (Nat → Nat → Int32)) (h : f_X10_drawOne rnd S = some u) : b_Ct l yX10_drawOne cX10_drawOne 6 none 3 70 D g [.ref (a 0)] [k_Atlas g a rnd, k_StO g a 4, k_Sheet g a 5 (S 0 0) (S 1) (S 2) (S 3) (S 4)] [k_Atlas g a u.1, k_StO g a 4, k_Sheet g a 5 (u.2 0 0) (u.2 1) (u.2 2) (u.2 3) (u.2 4)] none := by
  refine b_start RX10 (by decide) rfl (Nat.le_of_ble_eq_true rfl) rfl ?_
  intro p e s m args below meth c A ls Q hQ hx hb hr hlk hml hown hT hK hA hw hl
  have hl : lv_has ls 6 [(0, .ref (a 0))] := hl
  unfold f_X10_drawOne at h
  refine lv_aload_n hx hb dX10_drawOne_0 rfl (lv_at hl 0 rfl) ?_
  obtain ⟨r1, er1, h⟩ := g_bd_nm h
  refine b_callV hx hb hml hown hT hK hA hw mk_X10_396 (c_X10_nextRandom l D g a rnd r1 er1.symm) [0] [1, 2] rfl (by decide) 0 0 rfl rfl rfl rfl hl.1 [] rfl (Nat.le_of_ble_eq_true rfl) ⟨Nat.le_of_ble_eq_true rfl, Nat.le_of_ble_eq_true rfl⟩ ⟨Nat.zero_le _, Nat.zero_le _⟩ dX10_drawOne_1 (wb' := [k_Atlas g a r1.2, k_StO g a 4, k_Sheet g a 5 (S 0 0) (S 1) (S 2) (S 3) (S 4)]) rfl (b_e1 rfl (b_e1 rfl b_e0)) 3 rfl (by decide) (st2 := [.int r1.1]) rfl (fun H locs hw => ?_)
  refine lv_iconst (v := 5) hx hb dX10_drawOne_4 (by decide) ?_
  refine g_irem hx hb dX10_drawOne_5 (by decide) ?_
  refine lv_iconst (v := 1) hx hb dX10_drawOne_6 (by decide) ?_
  refine lv_iadd hx hb dX10_drawOne_7 ?_
  obtain ⟨x2, ex2, h⟩ := g_bd_nm h
  refine g_topi ex2 ?_
  refine lv_istore_n (lv' := [(1, .int x2), (0, .ref (a 0))]) hx hb dX10_drawOne_8 rfl hl (by decide) rfl (fun ls hl => ?_)
  refine lv_aload_n hx hb dX10_drawOne_9 rfl (lv_at hl 1 rfl) ?_
  obtain ⟨r3, er3, h⟩ := g_bd_nm h
  refine b_callV hx hb hml hown hT hK hA hw mk_X10_396 (c_X10_nextRandom l D g a r1.2 r3 er3.symm) [0] [1, 2] rfl (by decide) 0 0 rfl rfl rfl rfl hl.1 [] rfl (Nat.le_of_ble_eq_true rfl) ⟨Nat.le_of_ble_eq_true rfl, Nat.le_of_ble_eq_true rfl⟩ ⟨Nat.zero_le _, Nat.zero_le _⟩ dX10_drawOne_10 (wb' := [k_Atlas g a r3.2, k_StO g a 4, k_Sheet g a 5 (S 0 0) (S 1) (S 2) (S 3) (S 4)]) rfl (b_e1 rfl (b_e1 rfl b_e0)) 3 rfl (by decide) (st2 := [.int r3.1]) rfl (fun H locs hw => ?_)
  refine lv_iconst (v := 5) hx hb dX10_drawOne_13 (by decide) ?_
  refine g_irem hx hb dX10_drawOne_14 (by decide) ?_
  refine lv_iconst (v := 1) hx hb dX10_drawOne_15 (by decide) ?_
  refine lv_iadd hx hb dX10_drawOne_16 ?_
  obtain ⟨x4, ex4, h⟩ := g_bd_nm h
  refine g_topi ex4 ?_
  refine lv_istore_n (lv' := [(2, .int x4), (1, .int x2), (0, .ref (a 0))]) hx hb dX10_drawOne_17 rfl hl (by decide) rfl (fun ls hl => ?_)
  refine lv_aload_n hx hb dX10_drawOne_18 rfl (lv_at hl 2 rfl) ?_
  refine b_get hx hb hT hK hown fl_X10_47 hw 0 0 rfl rfl (v := .ref (a 4)) rfl dX10_drawOne_19 ?_
  refine b_get hx hb hT hK hown fl_X10_85 hw 1 0 rfl rfl (v := .ref (a 5)) rfl dX10_drawOne_22 ?_
  refine lv_iload_n hx hb dX10_drawOne_25 rfl (lv_at hl 1 rfl) ?_
  refine lv_iload_n hx hb dX10_drawOne_26 rfl (lv_at hl 0 rfl) ?_
  obtain ⟨r5, er5, h⟩ := g_cl_some h
  refine b_callV hx hb hml hown hT hK hA hw mk_X10_399 (c_X6_add l D g a 5 (S 0 0) (S 1) (S 2) (S 3) (S 4) x2 x4 r5 er5) [2] [0, 1] rfl (by decide) 2 0 rfl rfl rfl rfl hl.1 [] rfl (Nat.le_of_ble_eq_true rfl) ⟨Nat.le_of_ble_eq_true rfl, Nat.le_of_ble_eq_true rfl⟩ ⟨Nat.zero_le _, Nat.zero_le _⟩ dX10_drawOne_27 (wb' := [k_Atlas g a r3.2, k_StO g a 4, k_Sheet g a 5 r5.2.1 r5.2.2.1 r5.2.2.2.1 r5.2.2.2.2.1 r5.2.2.2.2.2]) rfl (b_e1 rfl (b_e1 rfl b_e0)) 3 rfl (by decide) (st2 := [.int r5.1]) rfl (fun H locs hw => ?_)
  refine lv_istore_n (lv' := [(3, .int r5.1), (2, .int x4), (1, .int x2), (0, .ref (a 0))]) hx hb dX10_drawOne_30 rfl hl (by decide) rfl (fun ls hl => ?_)
  refine lv_iconst (v := 0) hx hb dX10_drawOne_31 (by decide) ?_
  refine lv_istore (lv' := [(4, .int (0 : Int32)), (3, .int r5.1), (2, .int x4), (1, .int x2), (0, .ref (a 0))]) hx hb dX10_drawOne_32 hl (by decide) rfl (fun ls hl => ?_)
  have hL34 : ∀ (n : Nat) (x6 : Int32) (x7 : Int64) (S8 : Nat → Nat → Int32) (H : Heap) (locs : List Loc) (ls : Array Slot), b_Wd D A s.heap H locs [k_Atlas g a x7, k_StO g a 4, k_Sheet g a 5 r5.2.1 r5.2.2.1 r5.2.2.2.1 r5.2.2.2.2.1 (S8 4)] → lv_has ls 6 [(0, .ref (a 0)), (1, .int x2), (2, .int x4), (3, .int r5.1), (4, .int x6)] → f_X10_drawOne_L34 S x2 x4 r5 n x6 x7 S8 = some u → W p l e (g_rm 3 70) s m args below meth c H locs 0 0 Q (F0 m 34 ls []) := by
    intro n
    induction n with
    | zero =>
      intro x6 x7 S8 H locs ls hw hl h
      cases (show none = some u from h)
    | succ n ih34 =>
      intro x6 x7 S8 H locs ls hw hl h
      rw [f_X10_drawOne_L34] at h
      refine lv_iload hx hb dX10_drawOne_34 (lv_at hl 4 rfl) ?_
      refine lv_iload_n hx hb dX10_drawOne_36 rfl (lv_at hl 2 rfl) ?_
      refine lv_icmp_ge (tgt := 89) hx hb dX10_drawOne_37 (by decide) (fun hc37 => ?_) (fun hc37 => ?_)
      · rw [if_pos hc37] at h
        obtain rfl := Option.some.inj h
        exact b_vret hQ hx hb hr hlk hw rfl dX10_drawOne_89
      · rw [if_neg hc37] at h
        refine lv_iconst (v := 0) hx hb dX10_drawOne_40 (by decide) ?_
        refine lv_istore (lv' := [(5, .int (0 : Int32)), (0, .ref (a 0)), (1, .int x2), (2, .int x4), (3, .int r5.1), (4, .int x6)]) hx hb dX10_drawOne_41 hl (by decide) rfl (fun ls hl => ?_)
        obtain ⟨k83_10, ek83_10, h⟩ := g_jn_nm h
        have hk83_10 : ∀ (x9 : Int64) (S10 : Nat → Nat → Int32) (H : Heap) (locs : List Loc) (ls : Array Slot), b_Wd D A s.heap H locs [k_Atlas g a x9, k_StO g a 4, k_Sheet g a 5 r5.2.1 r5.2.2.1 r5.2.2.2.1 r5.2.2.2.2.1 (S10 4)] → lv_has ls 6 [(0, .ref (a 0)), (1, .int x2), (2, .int x4), (3, .int r5.1), (4, .int x6)] → k83_10 x9 S10 = some u → W p l e (g_rm 3 70) s m args below meth c H locs 0 0 Q (F0 m 83 ls []) := by
          intro x9 S10 H locs ls hw hl h
          subst ek83_10
          dsimp only at h
          obtain ⟨x12, ex12, h⟩ := g_bd_nm h
          refine lv_iinc (v := x12) (lv' := [(4, .int x12), (0, .ref (a 0)), (1, .int x2), (2, .int x4), (3, .int r5.1)]) hx hb dX10_drawOne_83 hl (k := 4) rfl (by rw [ex12]; rfl) (by decide) rfl (fun ls hl => ?_)
          refine lv_goto (tgt := 34) hx hb dX10_drawOne_86 (by decide) ?_
          exact ih34 x12 x9 (updC (updC (updC (updC (updC S 0 (upd (S 0) 0 r5.2.1)) 1 r5.2.2.1) 2 r5.2.2.2.1) 3 r5.2.2.2.2.1) 4 (S10 4)) _ _ _ hw (lv_sub hl [1, 2, 3, 4, 0] rfl) h
        have hL43 : ∀ (n : Nat) (x13 : Int32) (x14 : Int64) (S15 : Nat → Nat → Int32) (H : Heap) (locs : List Loc) (ls : Array Slot), b_Wd D A s.heap H locs [k_Atlas g a x14, k_StO g a 4, k_Sheet g a 5 r5.2.1 r5.2.2.1 r5.2.2.2.1 r5.2.2.2.2.1 (S15 4)] → lv_has ls 6 [(0, .ref (a 0)), (1, .int x2), (2, .int x4), (3, .int r5.1), (4, .int x6), (5, .int x13)] → f_X10_drawOne_L43 S x2 r5 x6 k83_10 n x13 x14 S15 = some u → W p l e (g_rm 3 70) s m args below meth c H locs 0 0 Q (F0 m 43 ls []) := by
          intro n
          induction n with
          | zero =>
            intro x13 x14 S15 H locs ls hw hl h
            cases (show none = some u from h)
          | succ n ih43 =>
            intro x13 x14 S15 H locs ls hw hl h
            rw [f_X10_drawOne_L43] at h
            refine lv_iload hx hb dX10_drawOne_43 (lv_at hl 5 rfl) ?_
            refine lv_iload_n hx hb dX10_drawOne_45 rfl (lv_at hl 1 rfl) ?_
            refine lv_icmp_ge (tgt := 83) hx hb dX10_drawOne_46 (by decide) (fun hc46 => ?_) (fun hc46 => ?_)
            · rw [if_pos hc46] at h
              exact hk83_10 x14 (updC (updC (updC (updC (updC S 0 (upd (S 0) 0 r5.2.1)) 1 r5.2.2.1) 2 r5.2.2.2.1) 3 r5.2.2.2.2.1) 4 (S15 4)) _ _ _ hw (lv_sub hl [0, 1, 2, 3, 4] rfl) h
            · rw [if_neg hc46] at h
              refine lv_aload_n hx hb dX10_drawOne_49 rfl (lv_at hl 0 rfl) ?_
              refine b_get hx hb hT hK hown fl_X10_47 hw 0 0 rfl rfl (v := .ref (a 4)) rfl dX10_drawOne_50 ?_
              refine b_get hx hb hT hK hown fl_X10_85 hw 1 0 rfl rfl (v := .ref (a 5)) rfl dX10_drawOne_53 ?_
              refine lv_iload_n hx hb dX10_drawOne_56 rfl (lv_at hl 3 rfl) ?_
              refine lv_iload hx hb dX10_drawOne_57 (lv_at hl 5 rfl) ?_
              refine lv_iload hx hb dX10_drawOne_59 (lv_at hl 4 rfl) ?_
              refine lv_aload_n hx hb dX10_drawOne_61 rfl (lv_at hl 0 rfl) ?_
              obtain ⟨r16, er16, h⟩ := g_bd_nm h
              refine b_callV hx hb hml hown hT hK hA hw mk_X10_396 (c_X10_nextRandom l D g a x14 r16 er16.symm) [0] [1, 2] rfl (by decide) 0 0 rfl rfl rfl rfl hl.1 [.int x6, .int x13, .int r5.1, .ref (a 5)] rfl (Nat.le_of_ble_eq_true rfl) ⟨Nat.le_of_ble_eq_true rfl, Nat.le_of_ble_eq_true rfl⟩ ⟨Nat.zero_le _, Nat.zero_le _⟩ dX10_drawOne_62 (wb' := [k_Atlas g a r16.2, k_StO g a 4, k_Sheet g a 5 r5.2.1 r5.2.2.1 r5.2.2.2.1 r5.2.2.2.2.1 (S15 4)]) rfl (b_e1 rfl (b_e1 rfl b_e0)) 3 rfl (by decide) (st2 := [.int r16.1, .int x6, .int x13, .int r5.1, .ref (a 5)]) rfl (fun H locs hw => ?_)
              refine lv_bipush (v := 6) hx hb dX10_drawOne_65 (by decide) ?_
              refine g_irem hx hb dX10_drawOne_67 (by decide) ?_
              refine lv_iconst (v := 2) hx hb dX10_drawOne_68 (by decide) ?_
              refine lv_isub hx hb dX10_drawOne_69 ?_
              refine lv_iconst (v := 0) hx hb dX10_drawOne_70 (by decide) ?_
              refine g_mmax hx hb hml hl.1 hown hT mm_X10_378 (Nat.le_of_ble_eq_true rfl) (Nat.le_of_ble_eq_true rfl) (Nat.zero_le _) (Nat.zero_le _) dX10_drawOne_71 ?_
              obtain ⟨r17, er17, h⟩ := g_cl_some h
              refine b_callV hx hb hml hown hT hK hA hw mk_X10_137 (c_X6_setColor l D g a 5 r5.2.1 r5.2.2.1 r5.2.2.2.1 r5.2.2.2.2.1 (S15 4) r5.1 x13 x6 (g_max ((g_rem r16.1 (6 : Int32)) - (2 : Int32)) (0 : Int32)) r17 er17) [2] [0, 1] rfl (by decide) 2 0 rfl rfl rfl rfl hl.1 [] rfl (Nat.le_of_ble_eq_true rfl) ⟨Nat.le_of_ble_eq_true rfl, Nat.le_of_ble_eq_true rfl⟩ ⟨Nat.zero_le _, Nat.zero_le _⟩ dX10_drawOne_74 (wb' := [k_Atlas g a r16.2, k_StO g a 4, k_Sheet g a 5 r5.2.1 r5.2.2.1 r5.2.2.2.1 r5.2.2.2.2.1 r17]) rfl (b_e1 rfl (b_e1 rfl b_e0)) 3 rfl (by decide) (st2 := []) rfl (fun H locs hw => ?_)
              obtain ⟨x18, ex18, h⟩ := g_bd_nm h
              refine lv_iinc (v := x18) (lv' := [(5, .int x18), (0, .ref (a 0)), (1, .int x2), (2, .int x4), (3, .int r5.1), (4, .int x6)]) hx hb dX10_drawOne_77 hl (k := 5) rfl (by rw [ex18]; rfl) (by decide) rfl (fun ls hl => ?_)
              refine lv_goto (tgt := 43) hx hb dX10_drawOne_80 (by decide) ?_
              exact ih43 x18 r16.2 (updC (updC (updC (updC (updC S 0 (upd (S 0) 0 r5.2.1)) 1 r5.2.2.1) 2 r5.2.2.2.1) 3 r5.2.2.2.2.1) 4 r17) _ _ _ hw (lv_sub hl [1, 2, 3, 4, 5, 0] rfl) h
        exact hL43 g_fuel (0 : Int32) x7 (updC (updC (updC (updC (updC S 0 (upd (S 0) 0 r5.2.1)) 1 r5.2.2.1) 2 r5.2.2.2.1) 3 r5.2.2.2.2.1) 4 (S8 4)) _ _ _ hw (lv_sub hl [1, 2, 3, 4, 5, 0] rfl) h
  exact hL34 g_fuel (0 : Int32) r3.2 (updC (updC (updC (updC (updC S 0 (upd (S 0) 0 r5.2.1)) 1 r5.2.2.1) 2 r5.2.2.2.1) 3 r5.2.2.2.2.1) 4 r5.2.2.2.2.2) _ _ _ hw (lv_sub hl [4, 3, 2, 1, 0] rfl) h
