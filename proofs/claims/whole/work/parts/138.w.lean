set_option maxRecDepth 100000 in
set_option maxHeartbeats 4000000 in
theorem c_X10_checksum (l : Launch) (D : va_G) (g : Nat → ClassId) (a : Nat → Nat) (rnd : Int64) (S : Nat → Nat → Int32) (lefts : (Nat → Int32)) (tops : (Nat → Int32)) (cwidths : (Nat → Int32)) (cheights : (Nat → Int32)) (originals : (Nat → Int32)) (orients : (Nat → Int32)) (spW : Int32) (spH : Int32) (fr : (Nat → Int64)) (codes : (Nat → Int32)) (counts : (Nat → Int32)) (u : Int64) (h : f_X10_checksum S lefts tops cwidths cheights originals orients counts = some u) : b_Ct l yX10_checksum cX10_checksum 4 (some .long) 6 157 D g [.ref (a 0)] [k_Atlas g a rnd, k_StO g a 4, k_Sheet g a 5 (S 0 0) (S 1) (S 2) (S 3) (S 4), k_Settings g a 10 (S 5 0) (S 5 1) (S 5 2) (S 5 3) (S 5 4) (S 5 5) (S 5 6) (S 5 7) (S 5 8) (S 5 9) (S 5 10) (S 5 11), k_Places g a 11 (S 6 0) (S 7) (S 8) (S 9) (S 10) (S 11), k_Catalog g a 30 lefts tops cwidths cheights originals orients, k_PkO g a 37 (a 4) (a 30), k_Space g a 38 spW spH fr codes counts] [k_Atlas g a rnd, k_StO g a 4, k_Sheet g a 5 (S 0 0) (S 1) (S 2) (S 3) (S 4), k_Settings g a 10 (S 5 0) (S 5 1) (S 5 2) (S 5 3) (S 5 4) (S 5 5) (S 5 6) (S 5 7) (S 5 8) (S 5 9) (S 5 10) (S 5 11), k_Places g a 11 (S 6 0) (S 7) (S 8) (S 9) (S 10) (S 11), k_Catalog g a 30 lefts tops cwidths cheights originals orients, k_PkO g a 37 (a 4) (a 30), k_Space g a 38 spW spH fr codes counts] (some (.long u)) := by
  refine b_start RX10 (by decide) rfl (Nat.le_of_ble_eq_true rfl) rfl ?_
  intro p e s m args below meth c A ls Q hQ hx hb hr hlk hml hown hT hK hA hw hl
  have hl : lv_has ls 4 [(0, .ref (a 0))] := hl
  unfold f_X10_checksum at h
  refine lv_ldc2 hx hb hown (hT _ kc_X10_365) dX10_checksum_0 ?_
  refine lv_aload_n hx hb dX10_checksum_3 rfl (lv_at hl 0 rfl) ?_
  refine b_get hx hb hT hK hown fl_X10_47 hw 0 0 rfl rfl (v := .ref (a 4)) rfl dX10_checksum_4 ?_
  refine b_get hx hb hT hK hown fl_X10_85 hw 1 0 rfl rfl (v := .ref (a 5)) rfl dX10_checksum_7 ?_
  refine b_get hx hb hT hK hown fl_X10_89 hw 2 0 rfl rfl (v := .int (S 0 0)) rfl dX10_checksum_10 ?_
  refine lv_i2l hx hb dX10_checksum_13 rfl ?_
  refine b_callS hx hb hml hown hT hK hA hw mk_X10_367 (c_X10_mix l D g (19 : Int64) (S 0 0).toInt64) [] [0, 1, 2, 3, 4, 5, 6, 7] rfl (by decide) rfl hl.1 [] rfl (Nat.le_of_ble_eq_true rfl) ⟨Nat.le_of_ble_eq_true rfl, Nat.le_of_ble_eq_true rfl⟩ ⟨Nat.zero_le _, Nat.zero_le _⟩ dX10_checksum_14 (wb' := [k_Atlas g a rnd, k_StO g a 4, k_Sheet g a 5 (S 0 0) (S 1) (S 2) (S 3) (S 4), k_Settings g a 10 (S 5 0) (S 5 1) (S 5 2) (S 5 3) (S 5 4) (S 5 5) (S 5 6) (S 5 7) (S 5 8) (S 5 9) (S 5 10) (S 5 11), k_Places g a 11 (S 6 0) (S 7) (S 8) (S 9) (S 10) (S 11), k_Catalog g a 30 lefts tops cwidths cheights originals orients, k_PkO g a 37 (a 4) (a 30), k_Space g a 38 spW spH fr codes counts]) rfl (b_e1 rfl (b_e1 rfl (b_e1 rfl (b_e1 rfl (b_e1 rfl (b_e1 rfl (b_e1 rfl (b_e1 rfl b_e0)))))))) 8 rfl (by decide) (st2 := [.long (f_X10_mix (19 : Int64) (S 0 0).toInt64)]) rfl (fun H locs hw => ?_)
  obtain ⟨y1, ey1, h⟩ := g_bd_nm h
  refine g_topl ey1 ?_
  refine lv_lstore_n (lv' := [(1, .long y1), (0, .ref (a 0))]) hx hb dX10_checksum_17 rfl hl (by decide) rfl (fun ls hl => ?_)
  refine lv_iconst (v := 0) hx hb dX10_checksum_18 (by decide) ?_
  refine lv_istore_n (lv' := [(3, .int (0 : Int32)), (1, .long y1), (0, .ref (a 0))]) hx hb dX10_checksum_19 rfl hl (by decide) rfl (fun ls hl => ?_)
  obtain ⟨k47_2, ek47_2, h⟩ := g_jn_nm h
  have hk47_2 : ∀ (y2 : Int64) (H : Heap) (locs : List Loc) (ls : Array Slot), b_Wd D A s.heap H locs [k_Atlas g a rnd, k_StO g a 4, k_Sheet g a 5 (S 0 0) (S 1) (S 2) (S 3) (S 4), k_Settings g a 10 (S 5 0) (S 5 1) (S 5 2) (S 5 3) (S 5 4) (S 5 5) (S 5 6) (S 5 7) (S 5 8) (S 5 9) (S 5 10) (S 5 11), k_Places g a 11 (S 6 0) (S 7) (S 8) (S 9) (S 10) (S 11), k_Catalog g a 30 lefts tops cwidths cheights originals orients, k_PkO g a 37 (a 4) (a 30), k_Space g a 38 spW spH fr codes counts] → lv_has ls 4 [(0, .ref (a 0)), (1, .long y2)] → k47_2 y2 = some u → W p l e (g_rm 6 157) s m args below meth c H locs 0 0 Q (F0 m 47 ls []) := by
    intro y2 H locs ls hw hl h
    subst ek47_2
    dsimp only at h
    refine lv_lload_n hx hb dX10_checksum_47 rfl (lv_at hl 1 rfl) ?_
    refine lv_aload_n hx hb dX10_checksum_48 rfl (lv_at hl 0 rfl) ?_
    refine b_get hx hb hT hK hown fl_X10_47 hw 0 0 rfl rfl (v := .ref (a 4)) rfl dX10_checksum_49 ?_
    refine b_get hx hb hT hK hown fl_X10_214 hw 1 0 rfl rfl (v := .ref (a 11)) rfl dX10_checksum_52 ?_
    refine b_get hx hb hT hK hown fl_X10_259 hw 4 0 rfl rfl (v := .int (S 6 0)) rfl dX10_checksum_55 ?_
    refine lv_i2l hx hb dX10_checksum_58 rfl ?_
    refine b_callS hx hb hml hown hT hK hA hw mk_X10_367 (c_X10_mix l D g y2 (S 6 0).toInt64) [] [0, 1, 2, 3, 4, 5, 6, 7] rfl (by decide) rfl hl.1 [] rfl (Nat.le_of_ble_eq_true rfl) ⟨Nat.le_of_ble_eq_true rfl, Nat.le_of_ble_eq_true rfl⟩ ⟨Nat.zero_le _, Nat.zero_le _⟩ dX10_checksum_59 (wb' := [k_Atlas g a rnd, k_StO g a 4, k_Sheet g a 5 (S 0 0) (S 1) (S 2) (S 3) (S 4), k_Settings g a 10 (S 5 0) (S 5 1) (S 5 2) (S 5 3) (S 5 4) (S 5 5) (S 5 6) (S 5 7) (S 5 8) (S 5 9) (S 5 10) (S 5 11), k_Places g a 11 (S 6 0) (S 7) (S 8) (S 9) (S 10) (S 11), k_Catalog g a 30 lefts tops cwidths cheights originals orients, k_PkO g a 37 (a 4) (a 30), k_Space g a 38 spW spH fr codes counts]) rfl (b_e1 rfl (b_e1 rfl (b_e1 rfl (b_e1 rfl (b_e1 rfl (b_e1 rfl (b_e1 rfl (b_e1 rfl b_e0)))))))) 8 rfl (by decide) (st2 := [.long (f_X10_mix y2 (S 6 0).toInt64)]) rfl (fun H locs hw => ?_)
    obtain ⟨y4, ey4, h⟩ := g_bd_nm h
    refine g_topl ey4 ?_
    refine lv_lstore_n (lv' := [(1, .long y4), (0, .ref (a 0))]) hx hb dX10_checksum_62 rfl hl (by decide) rfl (fun ls hl => ?_)
    refine lv_iconst (v := 0) hx hb dX10_checksum_63 (by decide) ?_
    refine lv_istore_n (lv' := [(3, .int (0 : Int32)), (1, .long y4), (0, .ref (a 0))]) hx hb dX10_checksum_64 rfl hl (by decide) rfl (fun ls hl => ?_)
    have hL65 : ∀ (n : Nat) (y5 : Int64) (x6 : Int32) (H : Heap) (locs : List Loc) (ls : Array Slot), b_Wd D A s.heap H locs [k_Atlas g a rnd, k_StO g a 4, k_Sheet g a 5 (S 0 0) (S 1) (S 2) (S 3) (S 4), k_Settings g a 10 (S 5 0) (S 5 1) (S 5 2) (S 5 3) (S 5 4) (S 5 5) (S 5 6) (S 5 7) (S 5 8) (S 5 9) (S 5 10) (S 5 11), k_Places g a 11 (S 6 0) (S 7) (S 8) (S 9) (S 10) (S 11), k_Catalog g a 30 lefts tops cwidths cheights originals orients, k_PkO g a 37 (a 4) (a 30), k_Space g a 38 spW spH fr codes counts] → lv_has ls 4 [(0, .ref (a 0)), (1, .long y5), (3, .int x6)] → f_X10_checksum_L65 S lefts tops cwidths cheights counts n y5 x6 = some u → W p l e (g_rm 6 157) s m args below meth c H locs 0 0 Q (F0 m 65 ls []) := by
      intro n
      induction n with
      | zero =>
        intro y5 x6 H locs ls hw hl h
        cases (show none = some u from h)
      | succ n ih65 =>
        intro y5 x6 H locs ls hw hl h
        rw [f_X10_checksum_L65] at h
        refine lv_iload_n hx hb dX10_checksum_65 rfl (lv_at hl 2 rfl) ?_
        refine lv_aload_n hx hb dX10_checksum_66 rfl (lv_at hl 0 rfl) ?_
        refine b_get hx hb hT hK hown fl_X10_47 hw 0 0 rfl rfl (v := .ref (a 4)) rfl dX10_checksum_67 ?_
        refine b_get hx hb hT hK hown fl_X10_214 hw 1 0 rfl rfl (v := .ref (a 11)) rfl dX10_checksum_70 ?_
        refine b_get hx hb hT hK hown fl_X10_259 hw 4 0 rfl rfl (v := .int (S 6 0)) rfl dX10_checksum_73 ?_
        refine lv_icmp_ge (tgt := 92) hx hb dX10_checksum_76 (by decide) (fun hc76 => ?_) (fun hc76 => ?_)
        · rw [if_pos hc76] at h
          refine lv_lload_n hx hb dX10_checksum_92 rfl (lv_at hl 1 rfl) ?_
          obtain rfl := Option.some.inj h
          exact b_lret hQ hx hb hr hlk hw rfl dX10_checksum_93
        · rw [if_neg hc76] at h
          refine lv_aload_n hx hb dX10_checksum_79 rfl (lv_at hl 0 rfl) ?_
          refine lv_lload_n hx hb dX10_checksum_80 rfl (lv_at hl 1 rfl) ?_
          refine lv_iload_n hx hb dX10_checksum_81 rfl (lv_at hl 2 rfl) ?_
          obtain ⟨r7, er7, h⟩ := g_cl_some h
          refine b_callV hx hb hml hown hT hK hA hw mk_X10_375 (c_X10_mixPage l D g a rnd S lefts tops cwidths cheights originals orients spW spH fr codes counts y5 x6 r7 er7) [0, 1, 2, 3, 4, 5, 6, 7] [] rfl (by decide) 0 0 rfl rfl rfl rfl hl.1 [] rfl (Nat.le_of_ble_eq_true rfl) ⟨Nat.le_of_ble_eq_true rfl, Nat.le_of_ble_eq_true rfl⟩ ⟨Nat.zero_le _, Nat.zero_le _⟩ dX10_checksum_82 (wb' := [k_Atlas g a rnd, k_StO g a 4, k_Sheet g a 5 (S 0 0) (S 1) (S 2) (S 3) (S 4), k_Settings g a 10 (S 5 0) (S 5 1) (S 5 2) (S 5 3) (S 5 4) (S 5 5) (S 5 6) (S 5 7) (S 5 8) (S 5 9) (S 5 10) (S 5 11), k_Places g a 11 (S 6 0) (S 7) (S 8) (S 9) (S 10) (S 11), k_Catalog g a 30 lefts tops cwidths cheights originals orients, k_PkO g a 37 (a 4) (a 30), k_Space g a 38 spW spH fr codes counts]) rfl b_e0 8 rfl (by decide) (st2 := [.long r7]) rfl (fun H locs hw => ?_)
          refine lv_lstore_n (lv' := [(1, .long r7), (0, .ref (a 0)), (3, .int x6)]) hx hb dX10_checksum_85 rfl hl (by decide) rfl (fun ls hl => ?_)
          obtain ⟨x8, ex8, h⟩ := g_bd_nm h
          refine lv_iinc (v := x8) (lv' := [(3, .int x8), (1, .long r7), (0, .ref (a 0))]) hx hb dX10_checksum_86 hl (k := 2) rfl (by rw [ex8]; rfl) (by decide) rfl (fun ls hl => ?_)
          refine lv_goto (tgt := 65) hx hb dX10_checksum_89 (by decide) ?_
          exact ih65 r7 x8 _ _ _ hw (lv_sub hl [2, 1, 0] rfl) h
    exact hL65 g_fuel y4 (0 : Int32) _ _ _ hw (lv_sub hl [2, 1, 0] rfl) h
  have hL20 : ∀ (n : Nat) (y9 : Int64) (x10 : Int32) (H : Heap) (locs : List Loc) (ls : Array Slot), b_Wd D A s.heap H locs [k_Atlas g a rnd, k_StO g a 4, k_Sheet g a 5 (S 0 0) (S 1) (S 2) (S 3) (S 4), k_Settings g a 10 (S 5 0) (S 5 1) (S 5 2) (S 5 3) (S 5 4) (S 5 5) (S 5 6) (S 5 7) (S 5 8) (S 5 9) (S 5 10) (S 5 11), k_Places g a 11 (S 6 0) (S 7) (S 8) (S 9) (S 10) (S 11), k_Catalog g a 30 lefts tops cwidths cheights originals orients, k_PkO g a 37 (a 4) (a 30), k_Space g a 38 spW spH fr codes counts] → lv_has ls 4 [(0, .ref (a 0)), (1, .long y9), (3, .int x10)] → f_X10_checksum_L20 S lefts tops cwidths cheights originals orients k47_2 n y9 x10 = some u → W p l e (g_rm 6 157) s m args below meth c H locs 0 0 Q (F0 m 20 ls []) := by
    intro n
    induction n with
    | zero =>
      intro y9 x10 H locs ls hw hl h
      cases (show none = some u from h)
    | succ n ih20 =>
      intro y9 x10 H locs ls hw hl h
      rw [f_X10_checksum_L20] at h
      refine lv_iload_n hx hb dX10_checksum_20 rfl (lv_at hl 2 rfl) ?_
      refine lv_aload_n hx hb dX10_checksum_21 rfl (lv_at hl 0 rfl) ?_
      refine b_get hx hb hT hK hown fl_X10_47 hw 0 0 rfl rfl (v := .ref (a 4)) rfl dX10_checksum_22 ?_
      refine b_get hx hb hT hK hown fl_X10_85 hw 1 0 rfl rfl (v := .ref (a 5)) rfl dX10_checksum_25 ?_
      refine b_get hx hb hT hK hown fl_X10_89 hw 2 0 rfl rfl (v := .int (S 0 0)) rfl dX10_checksum_28 ?_
      refine lv_icmp_ge (tgt := 47) hx hb dX10_checksum_31 (by decide) (fun hc31 => ?_) (fun hc31 => ?_)
      · rw [if_pos hc31] at h
        exact hk47_2 y9 _ _ _ hw (lv_sub hl [0, 1] rfl) h
      · rw [if_neg hc31] at h
        refine lv_aload_n hx hb dX10_checksum_34 rfl (lv_at hl 0 rfl) ?_
        refine lv_lload_n hx hb dX10_checksum_35 rfl (lv_at hl 1 rfl) ?_
        refine lv_iload_n hx hb dX10_checksum_36 rfl (lv_at hl 2 rfl) ?_
        obtain ⟨r11, er11, h⟩ := g_cl_some h
        refine b_callV hx hb hml hown hT hK hA hw mk_X10_371 (c_X10_mixSprite l D g a rnd S lefts tops cwidths cheights originals orients y9 x10 r11 er11) [0, 1, 2, 3, 4, 5, 6] [7] rfl (by decide) 0 0 rfl rfl rfl rfl hl.1 [] rfl (Nat.le_of_ble_eq_true rfl) ⟨Nat.le_of_ble_eq_true rfl, Nat.le_of_ble_eq_true rfl⟩ ⟨Nat.zero_le _, Nat.zero_le _⟩ dX10_checksum_37 (wb' := [k_Atlas g a rnd, k_StO g a 4, k_Sheet g a 5 (S 0 0) (S 1) (S 2) (S 3) (S 4), k_Settings g a 10 (S 5 0) (S 5 1) (S 5 2) (S 5 3) (S 5 4) (S 5 5) (S 5 6) (S 5 7) (S 5 8) (S 5 9) (S 5 10) (S 5 11), k_Places g a 11 (S 6 0) (S 7) (S 8) (S 9) (S 10) (S 11), k_Catalog g a 30 lefts tops cwidths cheights originals orients, k_PkO g a 37 (a 4) (a 30), k_Space g a 38 spW spH fr codes counts]) rfl (b_e1 rfl b_e0) 8 rfl (by decide) (st2 := [.long r11]) rfl (fun H locs hw => ?_)
        refine lv_lstore_n (lv' := [(1, .long r11), (0, .ref (a 0)), (3, .int x10)]) hx hb dX10_checksum_40 rfl hl (by decide) rfl (fun ls hl => ?_)
        obtain ⟨x12, ex12, h⟩ := g_bd_nm h
        refine lv_iinc (v := x12) (lv' := [(3, .int x12), (1, .long r11), (0, .ref (a 0))]) hx hb dX10_checksum_41 hl (k := 2) rfl (by rw [ex12]; rfl) (by decide) rfl (fun ls hl => ?_)
        refine lv_goto (tgt := 20) hx hb dX10_checksum_44 (by decide) ?_
        exact ih20 r11 x12 _ _ _ hw (lv_sub hl [2, 1, 0] rfl) h
  exact hL20 g_fuel y1 (0 : Int32) _ _ _ hw (lv_sub hl [2, 1, 0] rfl) h
set_option maxRecDepth 100000 in
set_option maxHeartbeats 4000000 in
theorem c_X11_in (l : Launch) (D : va_G) (g : Nat → ClassId) (i1 : Int32) (i2 : Int32) (i3 : Int32) : b_Ct l yX11_in cX11_in 3 (some .boolean) 0 0 D g [.int i1, .int i2, .int i3] ([] : List va_W) ([] : List va_W) (some (.int (f_X11_in i1 i2 i3))) := by
  refine b_start RX11 (by decide) rfl (Nat.le_of_ble_eq_true rfl) rfl ?_
  intro p e s m args below meth c A ls Q hQ hx hb hr hlk hml hown hT hK hA hw hl
  have hl : lv_has ls 3 [(0, .int i1), (1, .int i2), (2, .int i3)] := hl
  generalize h : f_X11_in i1 i2 i3 = u at hQ
  unfold f_X11_in at h
  refine lv_iload_n hx hb dX11_in_0 rfl (lv_at hl 0 rfl) ?_
  refine lv_iload_n hx hb dX11_in_1 rfl (lv_at hl 1 rfl) ?_
  refine lv_icmp_lt (tgt := 14) hx hb dX11_in_2 (by decide) (fun hc2 => ?_) (fun hc2 => ?_)
  · rw [if_pos hc2] at h
    refine lv_iconst (v := 0) hx hb dX11_in_14 (by decide) ?_
    obtain rfl := h
    exact b_zret hQ hx hb hr hlk (Or.inl rfl) hw rfl dX11_in_15
  · rw [if_neg hc2] at h
    refine lv_iload_n hx hb dX11_in_5 rfl (lv_at hl 0 rfl) ?_
    refine lv_iload_n hx hb dX11_in_6 rfl (lv_at hl 2 rfl) ?_
    refine lv_icmp_gt (tgt := 14) hx hb dX11_in_7 (by decide) (fun hc7 => ?_) (fun hc7 => ?_)
    · rw [if_pos hc7] at h
      refine lv_iconst (v := 0) hx hb dX11_in_14 (by decide) ?_
      obtain rfl := h
      exact b_zret hQ hx hb hr hlk (Or.inl rfl) hw rfl dX11_in_15
    · rw [if_neg hc7] at h
      refine lv_iconst (v := 1) hx hb dX11_in_10 (by decide) ?_
      refine lv_goto (tgt := 15) hx hb dX11_in_11 (by decide) ?_
      obtain rfl := h
      exact b_zret hQ hx hb hr hlk (Or.inr rfl) hw rfl dX11_in_15
set_option maxRecDepth 100000 in
set_option maxHeartbeats 4000000 in
theorem c_X11_at (l : Launch) (D : va_G) (g : Nat → ClassId) (i1 : Int32) (i2 : Int32) : b_Ct l yX11_at cX11_at 2 (some .int) 0 0 D g [.int i1, .int i2] ([] : List va_W) ([] : List va_W) (some (.int (f_X11_at i1 i2))) := by
  refine b_start RX11 (by decide) rfl (Nat.le_of_ble_eq_true rfl) rfl ?_
  intro p e s m args below meth c A ls Q hQ hx hb hr hlk hml hown hT hK hA hw hl
  have hl : lv_has ls 2 [(0, .int i1), (1, .int i2)] := hl
  generalize h : f_X11_at i1 i2 = u at hQ
  unfold f_X11_at at h
  refine lv_bipush (v := 20) hx hb dX11_at_0 (by decide) ?_
  refine lv_bipush (v := 72) hx hb dX11_at_2 (by decide) ?_
  refine lv_iload_n hx hb dX11_at_4 rfl (lv_at hl 0 rfl) ?_
  refine lv_imul hx hb dX11_at_5 ?_
  refine lv_iadd hx hb dX11_at_6 ?_
  refine lv_iload_n hx hb dX11_at_7 rfl (lv_at hl 1 rfl) ?_
  refine lv_iadd hx hb dX11_at_8 ?_
  obtain rfl := h
  exact b_iret hQ hx hb hr hlk hw rfl dX11_at_9
set_option maxRecDepth 100000 in
set_option maxHeartbeats 4000000 in
theorem c_X11_pixelAt (l : Launch) (D : va_G) (g : Nat → ClassId) (i1 : Int32) (i2 : Int32) (i3 : Int32) : b_Ct l yX11_pixelAt cX11_pixelAt 3 (some .int) 0 0 D g [.int i1, .int i2, .int i3] ([] : List va_W) ([] : List va_W) (some (.int (f_X11_pixelAt i1 i2 i3))) := by
  refine b_start RX11 (by decide) rfl (Nat.le_of_ble_eq_true rfl) rfl ?_
  intro p e s m args below meth c A ls Q hQ hx hb hr hlk hml hown hT hK hA hw hl
  have hl : lv_has ls 3 [(0, .int i1), (1, .int i2), (2, .int i3)] := hl
  generalize h : f_X11_pixelAt i1 i2 i3 = u at hQ
  unfold f_X11_pixelAt at h
  refine lv_bipush (v := 20) hx hb dX11_pixelAt_0 (by decide) ?_
  refine lv_bipush (v := 72) hx hb dX11_pixelAt_2 (by decide) ?_
  refine lv_iload_n hx hb dX11_pixelAt_4 rfl (lv_at hl 0 rfl) ?_
  refine lv_imul hx hb dX11_pixelAt_5 ?_
  refine lv_iadd hx hb dX11_pixelAt_6 ?_
  refine lv_bipush (v := 8) hx hb dX11_pixelAt_7 (by decide) ?_
  refine lv_iadd hx hb dX11_pixelAt_9 ?_
  refine lv_bipush (v := 8) hx hb dX11_pixelAt_10 (by decide) ?_
  refine lv_iload_n hx hb dX11_pixelAt_12 rfl (lv_at hl 2 rfl) ?_
  refine lv_imul hx hb dX11_pixelAt_13 ?_
  refine lv_iadd hx hb dX11_pixelAt_14 ?_
  refine lv_iload_n hx hb dX11_pixelAt_15 rfl (lv_at hl 1 rfl) ?_
  refine lv_iadd hx hb dX11_pixelAt_16 ?_
  obtain rfl := h
  exact b_iret hQ hx hb hr hlk hw rfl dX11_pixelAt_17
set_option maxRecDepth 100000 in
set_option maxHeartbeats 4000000 in
theorem c_X11_isSprite (l : Launch) (D : va_G) (g : Nat → ClassId) (a : Nat → Nat) (o : Nat) (pasts : Int32) (length : Int32) (printed : Int32) (told : Int32) (state : Int64) (backX : Int32) (backY : Int32) (boxes : Int32) (frees : Int32) (bestFree : Int32) (bestTurned : Int32) (bestFirst : Int32) (bestSecond : Int32) (v : (Nat → Int32)) (spare : (Nat → Int32)) (past : (Nat → Int32)) (kept : (Nat → Int32)) (isKept : (Nat → Int32)) (text : (Nat → Int32)) (paper : (Nat → Int32)) (left : (Nat → Int32)) (top : (Nat → Int32)) (wide : (Nat → Int32)) (high : (Nat → Int32)) (original : (Nat → Int32)) (turn : (Nat → Int32)) (boxX : (Nat → Int32)) (boxY : (Nat → Int32)) (boxW : (Nat → Int32)) (boxH : (Nat → Int32)) (freeAtX : (Nat → Int32)) (freeAtY : (Nat → Int32)) (freeW : (Nat → Int32)) (freeH : (Nat → Int32)) (begins : (Nat → Int32)) (ends : (Nat → Int32)) (tried : (Nat → Int32)) (aside : (Nat → Int32)) (i1 : Int32) (u : Int32) (h : f_X11_isSprite v i1 = some u) : b_Ct l yX11_isSprite cX11_isSprite 2 (some .boolean) 1 22 D g [.ref (a o), .int i1] [k_Model g a o pasts length printed told state backX backY boxes frees bestFree bestTurned bestFirst bestSecond v spare past kept isKept text paper left top wide high original turn boxX boxY boxW boxH freeAtX freeAtY freeW freeH begins ends tried aside] [k_Model g a o pasts length printed told state backX backY boxes frees bestFree bestTurned bestFirst bestSecond v spare past kept isKept text paper left top wide high original turn boxX boxY boxW boxH freeAtX freeAtY freeW freeH begins ends tried aside] (some (.int u)) := by
  refine b_start RX11 (by decide) rfl (Nat.le_of_ble_eq_true rfl) rfl ?_
  intro p e s m args below meth c A ls Q hQ hx hb hr hlk hml hown hT hK hA hw hl
  have hl : lv_has ls 2 [(0, .ref (a o)), (1, .int i1)] := hl
  unfold f_X11_isSprite at h
  refine lv_iload_n hx hb dX11_isSprite_0 rfl (lv_at hl 1 rfl) ?_
  refine lv_iconst (v := 0) hx hb dX11_isSprite_1 (by decide) ?_
  refine lv_aload_n hx hb dX11_isSprite_2 rfl (lv_at hl 0 rfl) ?_
  refine b_get hx hb hT hK hown fl_X11_7 hw 0 0 rfl rfl (v := .ref (a (o+1))) rfl dX11_isSprite_3 ?_
  refine lv_iconst (v := 0) hx hb dX11_isSprite_6 (by decide) ?_
  obtain ⟨x1, ex1, hix1, h⟩ := g_rd_some h
  refine b_iald hx hb hK hw 0 1 rfl (f := v) rfl hix1 ex1 dX11_isSprite_7 ?_
  refine lv_iconst (v := 1) hx hb dX11_isSprite_8 (by decide) ?_
  refine lv_isub hx hb dX11_isSprite_9 ?_
  refine b_callS hx hb hml hown hT hK hA hw mk_X11_86 (c_X11_in l D g i1 (0 : Int32) (x1 - (1 : Int32))) [] [0] rfl (by decide) rfl hl.1 [] rfl (Nat.le_of_ble_eq_true rfl) ⟨Nat.le_of_ble_eq_true rfl, Nat.le_of_ble_eq_true rfl⟩ ⟨Nat.zero_le _, Nat.zero_le _⟩ dX11_isSprite_10 (wb' := [k_Model g a o pasts length printed told state backX backY boxes frees bestFree bestTurned bestFirst bestSecond v spare past kept isKept text paper left top wide high original turn boxX boxY boxW boxH freeAtX freeAtY freeW freeH begins ends tried aside]) rfl (b_e1 rfl b_e0) 1 rfl (by decide) (st2 := [.int (f_X11_in i1 (0 : Int32) (x1 - (1 : Int32)))]) rfl (fun H locs hw => ?_)
  obtain ⟨x2, ex2, h⟩ := g_bd_nm h
  refine g_topi ex2 ?_
  obtain ⟨z3, h⟩ := g_z_some h
  obtain rfl := Option.some.inj h
  exact b_zret hQ hx hb hr hlk z3 hw rfl dX11_isSprite_13
set_option maxRecDepth 100000 in
set_option maxHeartbeats 4000000 in
theorem c_X11_notes (l : Launch) (D : va_G) (g : Nat → ClassId) (a : Nat → Nat) (o : Nat) (pasts : Int32) (length : Int32) (printed : Int32) (told : Int32) (state : Int64) (backX : Int32) (backY : Int32) (boxes : Int32) (frees : Int32) (bestFree : Int32) (bestTurned : Int32) (bestFirst : Int32) (bestSecond : Int32) (v : (Nat → Int32)) (spare : (Nat → Int32)) (past : (Nat → Int32)) (kept : (Nat → Int32)) (isKept : (Nat → Int32)) (text : (Nat → Int32)) (paper : (Nat → Int32)) (left : (Nat → Int32)) (top : (Nat → Int32)) (wide : (Nat → Int32)) (high : (Nat → Int32)) (original : (Nat → Int32)) (turn : (Nat → Int32)) (boxX : (Nat → Int32)) (boxY : (Nat → Int32)) (boxW : (Nat → Int32)) (boxH : (Nat → Int32)) (freeAtX : (Nat → Int32)) (freeAtY : (Nat → Int32)) (freeW : (Nat → Int32)) (freeH : (Nat → Int32)) (begins : (Nat → Int32)) (ends : (Nat → Int32)) (tried : (Nat → Int32)) (aside : (Nat → Int32)) (u : Int32 × (Nat → Int32)) (h : f_X11_notes pasts v past = some u) : b_Ct l yX11_notes cX11_notes 2 none 0 0 D g [.ref (a o)] [k_Model g a o pasts length printed told state backX backY boxes frees bestFree bestTurned bestFirst bestSecond v spare past kept isKept text paper left top wide high original turn boxX boxY boxW boxH freeAtX freeAtY freeW freeH begins ends tried aside] [k_Model g a o u.1 length printed told state backX backY boxes frees bestFree bestTurned bestFirst bestSecond v spare u.2 kept isKept text paper left top wide high original turn boxX boxY boxW boxH freeAtX freeAtY freeW freeH begins ends tried aside] none := by
  refine b_start RX11 (by decide) rfl (Nat.le_of_ble_eq_true rfl) rfl ?_
  intro p e s m args below meth c A ls Q hQ hx hb hr hlk hml hown hT hK hA hw hl
  have hl : lv_has ls 2 [(0, .ref (a o))] := hl
  unfold f_X11_notes at h
  refine lv_aload_n hx hb dX11_notes_0 rfl (lv_at hl 0 rfl) ?_
  refine b_get hx hb hT hK hown fl_X11_90 hw 0 0 rfl rfl (v := .int pasts) rfl dX11_notes_1 ?_
  refine lv_iconst (v := 5) hx hb dX11_notes_4 (by decide) ?_
  obtain ⟨j44_2, ej44_2, h⟩ := g_jn_nm h
  have hj44_2 : ∀ (x1 : Int32) (f2 : Nat → Int32) (H : Heap) (locs : List Loc) (ls : Array Slot), b_Wd D A s.heap H locs [k_Model g a o x1 length printed told state backX backY boxes frees bestFree bestTurned bestFirst bestSecond v spare f2 kept isKept text paper left top wide high original turn boxX boxY boxW boxH freeAtX freeAtY freeW freeH begins ends tried aside] → lv_has ls 2 [(0, .ref (a o))] → j44_2 x1 f2 = some u → W p l e (g_rm 0 0) s m args below meth c H locs 0 0 Q (F0 m 44 ls []) := by
    intro x1 f2 H locs ls hw hl h
    subst ej44_2
    dsimp only at h
    refine lv_iconst (v := 0) hx hb dX11_notes_44 (by decide) ?_
    refine lv_istore_n (lv' := [(1, .int (0 : Int32)), (0, .ref (a o))]) hx hb dX11_notes_45 rfl hl (by decide) rfl (fun ls hl => ?_)
    obtain ⟨k80_4, ek80_4, h⟩ := g_jn_nm h
    have hk80_4 : ∀ (f4 : Nat → Int32) (H : Heap) (locs : List Loc) (ls : Array Slot), b_Wd D A s.heap H locs [k_Model g a o x1 length printed told state backX backY boxes frees bestFree bestTurned bestFirst bestSecond v spare f4 kept isKept text paper left top wide high original turn boxX boxY boxW boxH freeAtX freeAtY freeW freeH begins ends tried aside] → lv_has ls 2 [(0, .ref (a o))] → k80_4 f4 = some u → W p l e (g_rm 0 0) s m args below meth c H locs 0 0 Q (F0 m 80 ls []) := by
      intro f4 H locs ls hw hl h
      subst ek80_4
      dsimp only at h
      refine lv_aload_n hx hb dX11_notes_80 rfl (lv_at hl 0 rfl) ?_
      refine lv_dup hx hb dX11_notes_81 rfl ?_
      refine b_get hx hb hT hK hown fl_X11_90 hw 0 0 rfl rfl (v := .int x1) rfl dX11_notes_82 ?_
      refine lv_iconst (v := 1) hx hb dX11_notes_85 (by decide) ?_
      refine lv_iadd hx hb dX11_notes_86 ?_
      obtain ⟨x6, ex6, h⟩ := g_bd_nm h
      refine g_topi ex6 ?_
      refine b_putf hx hb hT hK hown fl_X11_90 ft_X11 hw 0 0 rfl rfl rfl rfl rfl (Nat.le_of_ble_eq_true rfl) rfl (wb' := [k_Model g a o x6 length printed told state backX backY boxes frees bestFree bestTurned bestFirst bestSecond v spare f4 kept isKept text paper left top wide high original turn boxX boxY boxW boxH freeAtX freeAtY freeW freeH begins ends tried aside]) rfl dX11_notes_87 (fun H locs hw => ?_)
      obtain rfl := Option.some.inj h
      exact b_vret hQ hx hb hr hlk hw rfl dX11_notes_90
    have hL46 : ∀ (n : Nat) (x7 : Int32) (f8 : Nat → Int32) (H : Heap) (locs : List Loc) (ls : Array Slot), b_Wd D A s.heap H locs [k_Model g a o x1 length printed told state backX backY boxes frees bestFree bestTurned bestFirst bestSecond v spare f8 kept isKept text paper left top wide high original turn boxX boxY boxW boxH freeAtX freeAtY freeW freeH begins ends tried aside] → lv_has ls 2 [(0, .ref (a o)), (1, .int x7)] → f_X11_notes_L46 v x1 k80_4 n x7 f8 = some u → W p l e (g_rm 0 0) s m args below meth c H locs 0 0 Q (F0 m 46 ls []) := by
      intro n
      induction n with
      | zero =>
        intro x7 f8 H locs ls hw hl h
        cases (show none = some u from h)
      | succ n ih46 =>
        intro x7 f8 H locs ls hw hl h
        rw [f_X11_notes_L46] at h
        refine lv_iload_n hx hb dX11_notes_46 rfl (lv_at hl 1 rfl) ?_
        refine lv_sipush (v := 1748) hx hb dX11_notes_47 (by decide) ?_
        refine lv_icmp_ge (tgt := 80) hx hb dX11_notes_50 (by decide) (fun hc50 => ?_) (fun hc50 => ?_)
        · rw [if_pos hc50] at h
          exact hk80_4 f8 _ _ _ hw (lv_sub hl [0] rfl) h
        · rw [if_neg hc50] at h
          refine lv_aload_n hx hb dX11_notes_53 rfl (lv_at hl 0 rfl) ?_
          refine b_get hx hb hT hK hown fl_X11_16 hw 0 0 rfl rfl (v := .ref (a (o+3))) rfl dX11_notes_54 ?_
          refine lv_sipush (v := 1748) hx hb dX11_notes_57 (by decide) ?_
          refine lv_aload_n hx hb dX11_notes_60 rfl (lv_at hl 0 rfl) ?_
          refine b_get hx hb hT hK hown fl_X11_90 hw 0 0 rfl rfl (v := .int x1) rfl dX11_notes_61 ?_
          refine lv_imul hx hb dX11_notes_64 ?_
          refine lv_iload_n hx hb dX11_notes_65 rfl (lv_at hl 1 rfl) ?_
          refine lv_iadd hx hb dX11_notes_66 ?_
          refine lv_aload_n hx hb dX11_notes_67 rfl (lv_at hl 0 rfl) ?_
          refine b_get hx hb hT hK hown fl_X11_7 hw 0 0 rfl rfl (v := .ref (a (o+1))) rfl dX11_notes_68 ?_
          refine lv_iload_n hx hb dX11_notes_71 rfl (lv_at hl 1 rfl) ?_
          obtain ⟨x9, ex9, hix9, h⟩ := g_rd_some h
          refine b_iald hx hb hK hw 0 1 rfl (f := v) rfl hix9 ex9 dX11_notes_72 ?_
          obtain ⟨f10, ef10, hif10, h⟩ := g_wr_some h
          refine b_iast hx hb hK hw 0 3 rfl (f := f8) rfl hif10 ef10 rfl (wb' := [k_Model g a o x1 length printed told state backX backY boxes frees bestFree bestTurned bestFirst bestSecond v spare f10 kept isKept text paper left top wide high original turn boxX boxY boxW boxH freeAtX freeAtY freeW freeH begins ends tried aside]) rfl dX11_notes_73 (fun H locs hw => ?_)
          obtain ⟨x11, ex11, h⟩ := g_bd_nm h
          refine lv_iinc (v := x11) (lv' := [(1, .int x11), (0, .ref (a o))]) hx hb dX11_notes_74 hl (k := 1) rfl (by rw [ex11]; rfl) (by decide) rfl (fun ls hl => ?_)
          refine lv_goto (tgt := 46) hx hb dX11_notes_77 (by decide) ?_
          exact ih46 x11 f10 _ _ _ hw (lv_sub hl [1, 0] rfl) h
    exact hL46 g_fuel (0 : Int32) f2 _ _ _ hw (lv_sub hl [1, 0] rfl) h
  refine lv_icmp_ne (tgt := 44) hx hb dX11_notes_5 (by decide) (fun hc5 => ?_) (fun hc5 => ?_)
  · rw [if_neg hc5] at h
    exact hj44_2 pasts past _ _ _ hw (lv_sub hl [0] rfl) h
  · rw [if_pos hc5] at h
    refine lv_iconst (v := 0) hx hb dX11_notes_8 (by decide) ?_
    refine lv_istore_n (lv' := [(1, .int (0 : Int32)), (0, .ref (a o))]) hx hb dX11_notes_9 rfl hl (by decide) rfl (fun ls hl => ?_)
    obtain ⟨k39_12, ek39_12, h⟩ := g_jn_nm h
    have hk39_12 : ∀ (f12 : Nat → Int32) (H : Heap) (locs : List Loc) (ls : Array Slot), b_Wd D A s.heap H locs [k_Model g a o pasts length printed told state backX backY boxes frees bestFree bestTurned bestFirst bestSecond v spare f12 kept isKept text paper left top wide high original turn boxX boxY boxW boxH freeAtX freeAtY freeW freeH begins ends tried aside] → lv_has ls 2 [(0, .ref (a o))] → k39_12 f12 = some u → W p l e (g_rm 0 0) s m args below meth c H locs 0 0 Q (F0 m 39 ls []) := by
      intro f12 H locs ls hw hl h
      subst ek39_12
      dsimp only at h
      refine lv_aload_n hx hb dX11_notes_39 rfl (lv_at hl 0 rfl) ?_
      refine lv_iconst (v := 4) hx hb dX11_notes_40 (by decide) ?_
      refine b_putf hx hb hT hK hown fl_X11_90 ft_X11 hw 0 0 rfl rfl rfl rfl rfl (Nat.le_of_ble_eq_true rfl) rfl (wb' := [k_Model g a o (4 : Int32) length printed told state backX backY boxes frees bestFree bestTurned bestFirst bestSecond v spare f12 kept isKept text paper left top wide high original turn boxX boxY boxW boxH freeAtX freeAtY freeW freeH begins ends tried aside]) rfl dX11_notes_41 (fun H locs hw => ?_)
      exact hj44_2 (4 : Int32) f12 _ _ _ hw (lv_sub hl [0] rfl) h
    have hL10 : ∀ (n : Nat) (x14 : Int32) (f15 : Nat → Int32) (H : Heap) (locs : List Loc) (ls : Array Slot), b_Wd D A s.heap H locs [k_Model g a o pasts length printed told state backX backY boxes frees bestFree bestTurned bestFirst bestSecond v spare f15 kept isKept text paper left top wide high original turn boxX boxY boxW boxH freeAtX freeAtY freeW freeH begins ends tried aside] → lv_has ls 2 [(0, .ref (a o)), (1, .int x14)] → f_X11_notes_L10 k39_12 n x14 f15 = some u → W p l e (g_rm 0 0) s m args below meth c H locs 0 0 Q (F0 m 10 ls []) := by
      intro n
      induction n with
      | zero =>
        intro x14 f15 H locs ls hw hl h
        cases (show none = some u from h)
      | succ n ih10 =>
        intro x14 f15 H locs ls hw hl h
        rw [f_X11_notes_L10] at h
        refine lv_iload_n hx hb dX11_notes_10 rfl (lv_at hl 1 rfl) ?_
        refine lv_sipush (v := 6992) hx hb dX11_notes_11 (by decide) ?_
        refine lv_icmp_ge (tgt := 39) hx hb dX11_notes_14 (by decide) (fun hc14 => ?_) (fun hc14 => ?_)
        · rw [if_pos hc14] at h
          exact hk39_12 f15 _ _ _ hw (lv_sub hl [0] rfl) h
        · rw [if_neg hc14] at h
          refine lv_aload_n hx hb dX11_notes_17 rfl (lv_at hl 0 rfl) ?_
          refine b_get hx hb hT hK hown fl_X11_16 hw 0 0 rfl rfl (v := .ref (a (o+3))) rfl dX11_notes_18 ?_
          refine lv_iload_n hx hb dX11_notes_21 rfl (lv_at hl 1 rfl) ?_
          refine lv_aload_n hx hb dX11_notes_22 rfl (lv_at hl 0 rfl) ?_
          refine b_get hx hb hT hK hown fl_X11_16 hw 0 0 rfl rfl (v := .ref (a (o+3))) rfl dX11_notes_23 ?_
          refine lv_iload_n hx hb dX11_notes_26 rfl (lv_at hl 1 rfl) ?_
          refine lv_sipush (v := 1748) hx hb dX11_notes_27 (by decide) ?_
          refine lv_iadd hx hb dX11_notes_30 ?_
          obtain ⟨x16, ex16, hix16, h⟩ := g_rd_some h
          refine b_iald hx hb hK hw 0 3 rfl (f := f15) rfl hix16 ex16 dX11_notes_31 ?_
          obtain ⟨f17, ef17, hif17, h⟩ := g_wr_some h
          refine b_iast hx hb hK hw 0 3 rfl (f := f15) rfl hif17 ef17 rfl (wb' := [k_Model g a o pasts length printed told state backX backY boxes frees bestFree bestTurned bestFirst bestSecond v spare f17 kept isKept text paper left top wide high original turn boxX boxY boxW boxH freeAtX freeAtY freeW freeH begins ends tried aside]) rfl dX11_notes_32 (fun H locs hw => ?_)
          obtain ⟨x18, ex18, h⟩ := g_bd_nm h
          refine lv_iinc (v := x18) (lv' := [(1, .int x18), (0, .ref (a o))]) hx hb dX11_notes_33 hl (k := 1) rfl (by rw [ex18]; rfl) (by decide) rfl (fun ls hl => ?_)
          refine lv_goto (tgt := 10) hx hb dX11_notes_36 (by decide) ?_
          exact ih10 x18 f17 _ _ _ hw (lv_sub hl [1, 0] rfl) h
    exact hL10 g_fuel (0 : Int32) past _ _ _ hw (lv_sub hl [1, 0] rfl) h
set_option maxRecDepth 100000 in
set_option maxHeartbeats 4000000 in
theorem c_X11_empties (l : Launch) (D : va_G) (g : Nat → ClassId) (a : Nat → Nat) (o : Nat) (pasts : Int32) (length : Int32) (printed : Int32) (told : Int32) (state : Int64) (backX : Int32) (backY : Int32) (boxes : Int32) (frees : Int32) (bestFree : Int32) (bestTurned : Int32) (bestFirst : Int32) (bestSecond : Int32) (v : (Nat → Int32)) (spare : (Nat → Int32)) (past : (Nat → Int32)) (kept : (Nat → Int32)) (isKept : (Nat → Int32)) (text : (Nat → Int32)) (paper : (Nat → Int32)) (left : (Nat → Int32)) (top : (Nat → Int32)) (wide : (Nat → Int32)) (high : (Nat → Int32)) (original : (Nat → Int32)) (turn : (Nat → Int32)) (boxX : (Nat → Int32)) (boxY : (Nat → Int32)) (boxW : (Nat → Int32)) (boxH : (Nat → Int32)) (freeAtX : (Nat → Int32)) (freeAtY : (Nat → Int32)) (freeW : (Nat → Int32)) (freeH : (Nat → Int32)) (begins : (Nat → Int32)) (ends : (Nat → Int32)) (tried : (Nat → Int32)) (aside : (Nat → Int32)) (u : (Nat → Int32)) (h : f_X11_empties v = some u) : b_Ct l yX11_empties cX11_empties 2 none 1 21 D g [.ref (a o)] [k_Model g a o pasts length printed told state backX backY boxes frees bestFree bestTurned bestFirst bestSecond v spare past kept isKept text paper left top wide high original turn boxX boxY boxW boxH freeAtX freeAtY freeW freeH begins ends tried aside] [k_Model g a o pasts length printed told state backX backY boxes frees bestFree bestTurned bestFirst bestSecond u spare past kept isKept text paper left top wide high original turn boxX boxY boxW boxH freeAtX freeAtY freeW freeH begins ends tried aside] none := by
  refine b_start RX11 (by decide) rfl (Nat.le_of_ble_eq_true rfl) rfl ?_
  intro p e s m args below meth c A ls Q hQ hx hb hr hlk hml hown hT hK hA hw hl
  have hl : lv_has ls 2 [(0, .ref (a o))] := hl
  unfold f_X11_empties at h
  refine lv_aload_n hx hb dX11_empties_0 rfl (lv_at hl 0 rfl) ?_
  refine b_get hx hb hT hK hown fl_X11_7 hw 0 0 rfl rfl (v := .ref (a (o+1))) rfl dX11_empties_1 ?_
  refine lv_bipush (v := 13) hx hb dX11_empties_4 (by decide) ?_
  refine lv_iconst (v := 0) hx hb dX11_empties_6 (by decide) ?_
  obtain ⟨f1, ef1, hif1, h⟩ := g_wr_some h
  refine b_iast hx hb hK hw 0 1 rfl (f := v) rfl hif1 ef1 rfl (wb' := [k_Model g a o pasts length printed told state backX backY boxes frees bestFree bestTurned bestFirst bestSecond f1 spare past kept isKept text paper left top wide high original turn boxX boxY boxW boxH freeAtX freeAtY freeW freeH begins ends tried aside]) rfl dX11_empties_7 (fun H locs hw => ?_)
  refine lv_iconst (v := 0) hx hb dX11_empties_8 (by decide) ?_
  refine lv_istore_n (lv' := [(1, .int (0 : Int32)), (0, .ref (a o))]) hx hb dX11_empties_9 rfl hl (by decide) rfl (fun ls hl => ?_)
  have hL10 : ∀ (n : Nat) (x2 : Int32) (f3 : Nat → Int32) (H : Heap) (locs : List Loc) (ls : Array Slot), b_Wd D A s.heap H locs [k_Model g a o pasts length printed told state backX backY boxes frees bestFree bestTurned bestFirst bestSecond f3 spare past kept isKept text paper left top wide high original turn boxX boxY boxW boxH freeAtX freeAtY freeW freeH begins ends tried aside] → lv_has ls 2 [(0, .ref (a o)), (1, .int x2)] → f_X11_empties_L10 n x2 f3 = some u → W p l e (g_rm 1 21) s m args below meth c H locs 0 0 Q (F0 m 10 ls []) := by
    intro n
    induction n with
    | zero =>
      intro x2 f3 H locs ls hw hl h
      cases (show none = some u from h)
    | succ n ih10 =>
      intro x2 f3 H locs ls hw hl h
      rw [f_X11_empties_L10] at h
      refine lv_iload_n hx hb dX11_empties_10 rfl (lv_at hl 1 rfl) ?_
      refine lv_bipush (v := 24) hx hb dX11_empties_11 (by decide) ?_
      refine lv_icmp_ge (tgt := 33) hx hb dX11_empties_13 (by decide) (fun hc13 => ?_) (fun hc13 => ?_)
      · rw [if_pos hc13] at h
        obtain rfl := Option.some.inj h
        exact b_vret hQ hx hb hr hlk hw rfl dX11_empties_33
      · rw [if_neg hc13] at h
        refine lv_aload_n hx hb dX11_empties_16 rfl (lv_at hl 0 rfl) ?_
        refine b_get hx hb hT hK hown fl_X11_7 hw 0 0 rfl rfl (v := .ref (a (o+1))) rfl dX11_empties_17 ?_
        refine lv_iload_n hx hb dX11_empties_20 rfl (lv_at hl 1 rfl) ?_
        refine lv_iconst (v := 3) hx hb dX11_empties_21 (by decide) ?_
        refine b_callS hx hb hml hown hT hK hA hw mk_X11_94 (c_X11_at l D g x2 (3 : Int32)) [] [0] rfl (by decide) rfl hl.1 [.ref (a (o+1))] rfl (Nat.le_of_ble_eq_true rfl) ⟨Nat.le_of_ble_eq_true rfl, Nat.le_of_ble_eq_true rfl⟩ ⟨Nat.zero_le _, Nat.zero_le _⟩ dX11_empties_22 (wb' := [k_Model g a o pasts length printed told state backX backY boxes frees bestFree bestTurned bestFirst bestSecond f3 spare past kept isKept text paper left top wide high original turn boxX boxY boxW boxH freeAtX freeAtY freeW freeH begins ends tried aside]) rfl (b_e1 rfl b_e0) 1 rfl (by decide) (st2 := [.int (f_X11_at x2 (3 : Int32)), .ref (a (o+1))]) rfl (fun H locs hw => ?_)
        refine lv_iconst (v := -1) hx hb dX11_empties_25 (by decide) ?_
        obtain ⟨f4, ef4, hif4, h⟩ := g_wr_some h
        refine b_iast hx hb hK hw 0 1 rfl (f := f3) rfl hif4 ef4 rfl (wb' := [k_Model g a o pasts length printed told state backX backY boxes frees bestFree bestTurned bestFirst bestSecond f4 spare past kept isKept text paper left top wide high original turn boxX boxY boxW boxH freeAtX freeAtY freeW freeH begins ends tried aside]) rfl dX11_empties_26 (fun H locs hw => ?_)
        obtain ⟨x5, ex5, h⟩ := g_bd_nm h
        refine lv_iinc (v := x5) (lv' := [(1, .int x5), (0, .ref (a o))]) hx hb dX11_empties_27 hl (k := 1) rfl (by rw [ex5]; rfl) (by decide) rfl (fun ls hl => ?_)
        refine lv_goto (tgt := 10) hx hb dX11_empties_30 (by decide) ?_
        exact ih10 x5 f4 _ _ _ hw (lv_sub hl [1, 0] rfl) h
  exact hL10 g_fuel (0 : Int32) f1 _ _ _ hw (lv_sub hl [1, 0] rfl) h
set_option maxRecDepth 100000 in
set_option maxHeartbeats 4000000 in
theorem c_X11_sets (l : Launch) (D : va_G) (g : Nat → ClassId) (a : Nat → Nat) (o : Nat) (pasts : Int32) (length : Int32) (printed : Int32) (told : Int32) (state : Int64) (backX : Int32) (backY : Int32) (boxes : Int32) (frees : Int32) (bestFree : Int32) (bestTurned : Int32) (bestFirst : Int32) (bestSecond : Int32) (v : (Nat → Int32)) (spare : (Nat → Int32)) (past : (Nat → Int32)) (kept : (Nat → Int32)) (isKept : (Nat → Int32)) (text : (Nat → Int32)) (paper : (Nat → Int32)) (left : (Nat → Int32)) (top : (Nat → Int32)) (wide : (Nat → Int32)) (high : (Nat → Int32)) (original : (Nat → Int32)) (turn : (Nat → Int32)) (boxX : (Nat → Int32)) (boxY : (Nat → Int32)) (boxW : (Nat → Int32)) (boxH : (Nat → Int32)) (freeAtX : (Nat → Int32)) (freeAtY : (Nat → Int32)) (freeW : (Nat → Int32)) (freeH : (Nat → Int32)) (begins : (Nat → Int32)) (ends : (Nat → Int32)) (tried : (Nat → Int32)) (aside : (Nat → Int32)) (i1 : Int32) (i2 : Int32) (u : Int32 × Int32 × (Nat → Int32) × (Nat → Int32)) (h : f_X11_sets pasts v past i1 i2 = some u) : b_Ct l yX11_sets cX11_sets 4 (some .int) 2 42 D g [.ref (a o), .int i1, .int i2] [k_Model g a o pasts length printed told state backX backY boxes frees bestFree bestTurned bestFirst bestSecond v spare past kept isKept text paper left top wide high original turn boxX boxY boxW boxH freeAtX freeAtY freeW freeH begins ends tried aside] [k_Model g a o u.2.1 length printed told state backX backY boxes frees bestFree bestTurned bestFirst bestSecond u.2.2.1 spare u.2.2.2 kept isKept text paper left top wide high original turn boxX boxY boxW boxH freeAtX freeAtY freeW freeH begins ends tried aside] (some (.int u.1)) := by
  refine b_start RX11 (by decide) rfl (Nat.le_of_ble_eq_true rfl) rfl ?_
  intro p e s m args below meth c A ls Q hQ hx hb hr hlk hml hown hT hK hA hw hl
  have hl : lv_has ls 4 [(0, .ref (a o)), (1, .int i1), (2, .int i2)] := hl
  unfold f_X11_sets at h
  refine lv_aload_n hx hb dX11_sets_0 rfl (lv_at hl 0 rfl) ?_
  obtain ⟨r1, er1, h⟩ := g_cl_some h
  refine b_callV hx hb hml hown hT hK hA hw mk_X11_98 (c_X11_notes l D g a o pasts length printed told state backX backY boxes frees bestFree bestTurned bestFirst bestSecond v spare past kept isKept text paper left top wide high original turn boxX boxY boxW boxH freeAtX freeAtY freeW freeH begins ends tried aside r1 er1) [0] [] rfl (by decide) 0 0 rfl rfl rfl rfl hl.1 [] rfl (Nat.le_of_ble_eq_true rfl) ⟨Nat.le_of_ble_eq_true rfl, Nat.le_of_ble_eq_true rfl⟩ ⟨Nat.zero_le _, Nat.zero_le _⟩ dX11_sets_1 (wb' := [k_Model g a o r1.1 length printed told state backX backY boxes frees bestFree bestTurned bestFirst bestSecond v spare r1.2 kept isKept text paper left top wide high original turn boxX boxY boxW boxH freeAtX freeAtY freeW freeH begins ends tried aside]) rfl b_e0 1 rfl (by decide) (st2 := []) rfl (fun H locs hw => ?_)
  refine lv_aload_n hx hb dX11_sets_4 rfl (lv_at hl 0 rfl) ?_
  refine b_get hx hb hT hK hown fl_X11_7 hw 0 0 rfl rfl (v := .ref (a (o+1))) rfl dX11_sets_5 ?_
  refine lv_iload_n hx hb dX11_sets_8 rfl (lv_at hl 1 rfl) ?_
  obtain ⟨x2, ex2, hix2, h⟩ := g_rd_some h
  refine b_iald hx hb hK hw 0 1 rfl (f := v) rfl hix2 ex2 dX11_sets_9 ?_
  refine lv_istore_n (lv' := [(3, .int x2), (0, .ref (a o)), (1, .int i1), (2, .int i2)]) hx hb dX11_sets_10 rfl hl (by decide) rfl (fun ls hl => ?_)
  refine lv_aload_n hx hb dX11_sets_11 rfl (lv_at hl 1 rfl) ?_
  refine b_get hx hb hT hK hown fl_X11_7 hw 0 0 rfl rfl (v := .ref (a (o+1))) rfl dX11_sets_12 ?_
  refine lv_iload_n hx hb dX11_sets_15 rfl (lv_at hl 2 rfl) ?_
  refine lv_iload_n hx hb dX11_sets_16 rfl (lv_at hl 3 rfl) ?_
  obtain ⟨f3, ef3, hif3, h⟩ := g_wr_some h
  refine b_iast hx hb hK hw 0 1 rfl (f := v) rfl hif3 ef3 rfl (wb' := [k_Model g a o r1.1 length printed told state backX backY boxes frees bestFree bestTurned bestFirst bestSecond f3 spare r1.2 kept isKept text paper left top wide high original turn boxX boxY boxW boxH freeAtX freeAtY freeW freeH begins ends tried aside]) rfl dX11_sets_17 (fun H locs hw => ?_)
  refine lv_aload_n hx hb dX11_sets_18 rfl (lv_at hl 1 rfl) ?_
  obtain ⟨r4, er4, h⟩ := g_cl_some h
  refine b_callV hx hb hml hown hT hK hA hw mk_X11_101 (c_X11_empties l D g a o r1.1 length printed told state backX backY boxes frees bestFree bestTurned bestFirst bestSecond f3 spare r1.2 kept isKept text paper left top wide high original turn boxX boxY boxW boxH freeAtX freeAtY freeW freeH begins ends tried aside r4 er4) [0] [] rfl (by decide) 0 0 rfl rfl rfl rfl hl.1 [] rfl (Nat.le_of_ble_eq_true rfl) ⟨Nat.le_of_ble_eq_true rfl, Nat.le_of_ble_eq_true rfl⟩ ⟨Nat.zero_le _, Nat.zero_le _⟩ dX11_sets_19 (wb' := [k_Model g a o r1.1 length printed told state backX backY boxes frees bestFree bestTurned bestFirst bestSecond r4 spare r1.2 kept isKept text paper left top wide high original turn boxX boxY boxW boxH freeAtX freeAtY freeW freeH begins ends tried aside]) rfl b_e0 1 rfl (by decide) (st2 := []) rfl (fun H locs hw => ?_)
  refine lv_iload_n hx hb dX11_sets_22 rfl (lv_at hl 0 rfl) ?_
  obtain rfl := Option.some.inj h
  exact b_iret hQ hx hb hr hlk hw rfl dX11_sets_23
set_option maxRecDepth 100000 in
set_option maxHeartbeats 4000000 in
theorem c_X11_undo (l : Launch) (D : va_G) (g : Nat → ClassId) (a : Nat → Nat) (o : Nat) (pasts : Int32) (length : Int32) (printed : Int32) (told : Int32) (state : Int64) (backX : Int32) (backY : Int32) (boxes : Int32) (frees : Int32) (bestFree : Int32) (bestTurned : Int32) (bestFirst : Int32) (bestSecond : Int32) (v : (Nat → Int32)) (spare : (Nat → Int32)) (past : (Nat → Int32)) (kept : (Nat → Int32)) (isKept : (Nat → Int32)) (text : (Nat → Int32)) (paper : (Nat → Int32)) (left : (Nat → Int32)) (top : (Nat → Int32)) (wide : (Nat → Int32)) (high : (Nat → Int32)) (original : (Nat → Int32)) (turn : (Nat → Int32)) (boxX : (Nat → Int32)) (boxY : (Nat → Int32)) (boxW : (Nat → Int32)) (boxH : (Nat → Int32)) (freeAtX : (Nat → Int32)) (freeAtY : (Nat → Int32)) (freeW : (Nat → Int32)) (freeH : (Nat → Int32)) (begins : (Nat → Int32)) (ends : (Nat → Int32)) (tried : (Nat → Int32)) (aside : (Nat → Int32)) (u : Int32 × Int32 × (Nat → Int32)) (h : f_X11_undo pasts v past = some u) : b_Ct l yX11_undo cX11_undo 2 (some .int) 0 0 D g [.ref (a o)] [k_Model g a o pasts length printed told state backX backY boxes frees bestFree bestTurned bestFirst bestSecond v spare past kept isKept text paper left top wide high original turn boxX boxY boxW boxH freeAtX freeAtY freeW freeH begins ends tried aside] [k_Model g a o u.2.1 length printed told state backX backY boxes frees bestFree bestTurned bestFirst bestSecond u.2.2 spare past kept isKept text paper left top wide high original turn boxX boxY boxW boxH freeAtX freeAtY freeW freeH begins ends tried aside] (some (.int u.1)) := by
  refine b_start RX11 (by decide) rfl (Nat.le_of_ble_eq_true rfl) rfl ?_
  intro p e s m args below meth c A ls Q hQ hx hb hr hlk hml hown hT hK hA hw hl
  have hl : lv_has ls 2 [(0, .ref (a o))] := hl
  unfold f_X11_undo at h
  refine lv_aload_n hx hb dX11_undo_0 rfl (lv_at hl 0 rfl) ?_
  refine b_get hx hb hT hK hown fl_X11_90 hw 0 0 rfl rfl (v := .int pasts) rfl dX11_undo_1 ?_
  refine lv_if_ne (tgt := 10) hx hb dX11_undo_4 (by decide) (fun hc4 => ?_) (fun hc4 => ?_)
  · rw [if_neg hc4] at h
    refine lv_aload_n hx hb dX11_undo_10 rfl (lv_at hl 0 rfl) ?_
    refine lv_dup hx hb dX11_undo_11 rfl ?_
    refine b_get hx hb hT hK hown fl_X11_90 hw 0 0 rfl rfl (v := .int pasts) rfl dX11_undo_12 ?_
    refine lv_iconst (v := 1) hx hb dX11_undo_15 (by decide) ?_
    refine lv_isub hx hb dX11_undo_16 ?_
    obtain ⟨x1, ex1, h⟩ := g_bd_nm h
    refine g_topi ex1 ?_
    refine b_putf hx hb hT hK hown fl_X11_90 ft_X11 hw 0 0 rfl rfl rfl rfl rfl (Nat.le_of_ble_eq_true rfl) rfl (wb' := [k_Model g a o x1 length printed told state backX backY boxes frees bestFree bestTurned bestFirst bestSecond v spare past kept isKept text paper left top wide high original turn boxX boxY boxW boxH freeAtX freeAtY freeW freeH begins ends tried aside]) rfl dX11_undo_17 (fun H locs hw => ?_)
    refine lv_iconst (v := 0) hx hb dX11_undo_20 (by decide) ?_
    refine lv_istore_n (lv' := [(1, .int (0 : Int32)), (0, .ref (a o))]) hx hb dX11_undo_21 rfl hl (by decide) rfl (fun ls hl => ?_)
    obtain ⟨k56_2, ek56_2, h⟩ := g_jn_nm h
    have hk56_2 : ∀ (f2 : Nat → Int32) (H : Heap) (locs : List Loc) (ls : Array Slot), b_Wd D A s.heap H locs [k_Model g a o x1 length printed told state backX backY boxes frees bestFree bestTurned bestFirst bestSecond f2 spare past kept isKept text paper left top wide high original turn boxX boxY boxW boxH freeAtX freeAtY freeW freeH begins ends tried aside] → lv_has ls 2 [(0, .ref (a o))] → k56_2 f2 = some u → W p l e (g_rm 0 0) s m args below meth c H locs 0 0 Q (F0 m 56 ls []) := by
      intro f2 H locs ls hw hl h
      subst ek56_2
      dsimp only at h
      refine lv_aload_n hx hb dX11_undo_56 rfl (lv_at hl 0 rfl) ?_
      refine b_get hx hb hT hK hown fl_X11_90 hw 0 0 rfl rfl (v := .int x1) rfl dX11_undo_57 ?_
      obtain rfl := Option.some.inj h
      exact b_iret hQ hx hb hr hlk hw rfl dX11_undo_60
    have hL22 : ∀ (n : Nat) (x4 : Int32) (f5 : Nat → Int32) (H : Heap) (locs : List Loc) (ls : Array Slot), b_Wd D A s.heap H locs [k_Model g a o x1 length printed told state backX backY boxes frees bestFree bestTurned bestFirst bestSecond f5 spare past kept isKept text paper left top wide high original turn boxX boxY boxW boxH freeAtX freeAtY freeW freeH begins ends tried aside] → lv_has ls 2 [(0, .ref (a o)), (1, .int x4)] → f_X11_undo_L22 past x1 k56_2 n x4 f5 = some u → W p l e (g_rm 0 0) s m args below meth c H locs 0 0 Q (F0 m 22 ls []) := by
      intro n
      induction n with
      | zero =>
        intro x4 f5 H locs ls hw hl h
        cases (show none = some u from h)
      | succ n ih22 =>
        intro x4 f5 H locs ls hw hl h
        rw [f_X11_undo_L22] at h
        refine lv_iload_n hx hb dX11_undo_22 rfl (lv_at hl 1 rfl) ?_
        refine lv_sipush (v := 1748) hx hb dX11_undo_23 (by decide) ?_
        refine lv_icmp_ge (tgt := 56) hx hb dX11_undo_26 (by decide) (fun hc26 => ?_) (fun hc26 => ?_)
        · rw [if_pos hc26] at h
          exact hk56_2 f5 _ _ _ hw (lv_sub hl [0] rfl) h
        · rw [if_neg hc26] at h
          refine lv_aload_n hx hb dX11_undo_29 rfl (lv_at hl 0 rfl) ?_
          refine b_get hx hb hT hK hown fl_X11_7 hw 0 0 rfl rfl (v := .ref (a (o+1))) rfl dX11_undo_30 ?_
          refine lv_iload_n hx hb dX11_undo_33 rfl (lv_at hl 1 rfl) ?_
          refine lv_aload_n hx hb dX11_undo_34 rfl (lv_at hl 0 rfl) ?_
          refine b_get hx hb hT hK hown fl_X11_16 hw 0 0 rfl rfl (v := .ref (a (o+3))) rfl dX11_undo_35 ?_
          refine lv_sipush (v := 1748) hx hb dX11_undo_38 (by decide) ?_
          refine lv_aload_n hx hb dX11_undo_41 rfl (lv_at hl 0 rfl) ?_
          refine b_get hx hb hT hK hown fl_X11_90 hw 0 0 rfl rfl (v := .int x1) rfl dX11_undo_42 ?_
          refine lv_imul hx hb dX11_undo_45 ?_
          refine lv_iload_n hx hb dX11_undo_46 rfl (lv_at hl 1 rfl) ?_
          refine lv_iadd hx hb dX11_undo_47 ?_
          obtain ⟨x6, ex6, hix6, h⟩ := g_rd_some h
          refine b_iald hx hb hK hw 0 3 rfl (f := past) rfl hix6 ex6 dX11_undo_48 ?_
          obtain ⟨f7, ef7, hif7, h⟩ := g_wr_some h
          refine b_iast hx hb hK hw 0 1 rfl (f := f5) rfl hif7 ef7 rfl (wb' := [k_Model g a o x1 length printed told state backX backY boxes frees bestFree bestTurned bestFirst bestSecond f7 spare past kept isKept text paper left top wide high original turn boxX boxY boxW boxH freeAtX freeAtY freeW freeH begins ends tried aside]) rfl dX11_undo_49 (fun H locs hw => ?_)
          obtain ⟨x8, ex8, h⟩ := g_bd_nm h
          refine lv_iinc (v := x8) (lv' := [(1, .int x8), (0, .ref (a o))]) hx hb dX11_undo_50 hl (k := 1) rfl (by rw [ex8]; rfl) (by decide) rfl (fun ls hl => ?_)
          refine lv_goto (tgt := 22) hx hb dX11_undo_53 (by decide) ?_
          exact ih22 x8 f7 _ _ _ hw (lv_sub hl [1, 0] rfl) h
    exact hL22 g_fuel (0 : Int32) v _ _ _ hw (lv_sub hl [1, 0] rfl) h
  · rw [if_pos hc4] at h
    refine lv_bipush (v := -3) hx hb dX11_undo_7 (by decide) ?_
    obtain rfl := Option.some.inj h
    exact b_iret hQ hx hb hr hlk hw rfl dX11_undo_9
set_option maxRecDepth 100000 in
set_option maxHeartbeats 4000000 in
theorem c_X11_append (l : Launch) (D : va_G) (g : Nat → ClassId) (a : Nat → Nat) (o : Nat) (pasts : Int32) (length : Int32) (printed : Int32) (told : Int32) (state : Int64) (backX : Int32) (backY : Int32) (boxes : Int32) (frees : Int32) (bestFree : Int32) (bestTurned : Int32) (bestFirst : Int32) (bestSecond : Int32) (v : (Nat → Int32)) (spare : (Nat → Int32)) (past : (Nat → Int32)) (kept : (Nat → Int32)) (isKept : (Nat → Int32)) (text : (Nat → Int32)) (paper : (Nat → Int32)) (left : (Nat → Int32)) (top : (Nat → Int32)) (wide : (Nat → Int32)) (high : (Nat → Int32)) (original : (Nat → Int32)) (turn : (Nat → Int32)) (boxX : (Nat → Int32)) (boxY : (Nat → Int32)) (boxW : (Nat → Int32)) (boxH : (Nat → Int32)) (freeAtX : (Nat → Int32)) (freeAtY : (Nat → Int32)) (freeW : (Nat → Int32)) (freeH : (Nat → Int32)) (begins : (Nat → Int32)) (ends : (Nat → Int32)) (tried : (Nat → Int32)) (aside : (Nat → Int32)) (i1 : Int32) (u : Int32 × Int32 × (Nat → Int32)) (h : f_X11_append length text i1 = some u) : b_Ct l yX11_append cX11_append 2 (some .int) 1 22 D g [.ref (a o), .int i1] [k_Model g a o pasts length printed told state backX backY boxes frees bestFree bestTurned bestFirst bestSecond v spare past kept isKept text paper left top wide high original turn boxX boxY boxW boxH freeAtX freeAtY freeW freeH begins ends tried aside] [k_Model g a o pasts u.2.1 printed told state backX backY boxes frees bestFree bestTurned bestFirst bestSecond v spare past kept isKept u.2.2 paper left top wide high original turn boxX boxY boxW boxH freeAtX freeAtY freeW freeH begins ends tried aside] (some (.int u.1)) := by
  refine b_start RX11 (by decide) rfl (Nat.le_of_ble_eq_true rfl) rfl ?_
  intro p e s m args below meth c A ls Q hQ hx hb hr hlk hml hown hT hK hA hw hl
  have hl : lv_has ls 2 [(0, .ref (a o)), (1, .int i1)] := hl
  unfold f_X11_append at h
  refine lv_iload_n hx hb dX11_append_0 rfl (lv_at hl 1 rfl) ?_
  refine lv_bipush (v := 32) hx hb dX11_append_1 (by decide) ?_
  refine lv_bipush (v := 126) hx hb dX11_append_3 (by decide) ?_
  refine b_callS hx hb hml hown hT hK hA hw mk_X11_86 (c_X11_in l D g i1 (32 : Int32) (126 : Int32)) [] [0] rfl (by decide) rfl hl.1 [] rfl (Nat.le_of_ble_eq_true rfl) ⟨Nat.le_of_ble_eq_true rfl, Nat.le_of_ble_eq_true rfl⟩ ⟨Nat.zero_le _, Nat.zero_le _⟩ dX11_append_5 (wb' := [k_Model g a o pasts length printed told state backX backY boxes frees bestFree bestTurned bestFirst bestSecond v spare past kept isKept text paper left top wide high original turn boxX boxY boxW boxH freeAtX freeAtY freeW freeH begins ends tried aside]) rfl (b_e1 rfl b_e0) 1 rfl (by decide) (st2 := [.int (f_X11_in i1 (32 : Int32) (126 : Int32))]) rfl (fun H locs hw => ?_)
  refine lv_if_ne (tgt := 13) hx hb dX11_append_8 (by decide) (fun hc8 => ?_) (fun hc8 => ?_)
  · rw [if_neg hc8] at h
    refine lv_aload_n hx hb dX11_append_13 rfl (lv_at hl 0 rfl) ?_
    refine b_get hx hb hT hK hown fl_X11_104 hw 0 0 rfl rfl (v := .int length) rfl dX11_append_14 ?_
    refine lv_sipush (v := 160) hx hb dX11_append_17 (by decide) ?_
    refine lv_icmp_ne (tgt := 26) hx hb dX11_append_20 (by decide) (fun hc20 => ?_) (fun hc20 => ?_)
    · rw [if_neg hc20] at h
      refine lv_aload_n hx hb dX11_append_26 rfl (lv_at hl 0 rfl) ?_
      refine b_get hx hb hT hK hown fl_X11_26 hw 0 0 rfl rfl (v := .ref (a (o+6))) rfl dX11_append_27 ?_
      refine lv_aload_n hx hb dX11_append_30 rfl (lv_at hl 0 rfl) ?_
      refine b_get hx hb hT hK hown fl_X11_104 hw 0 0 rfl rfl (v := .int length) rfl dX11_append_31 ?_
      refine lv_iload_n hx hb dX11_append_34 rfl (lv_at hl 1 rfl) ?_
      obtain ⟨f1, ef1, hif1, h⟩ := g_wr_some h
      refine b_iast hx hb hK hw 0 6 rfl (f := text) rfl hif1 ef1 rfl (wb' := [k_Model g a o pasts length printed told state backX backY boxes frees bestFree bestTurned bestFirst bestSecond v spare past kept isKept f1 paper left top wide high original turn boxX boxY boxW boxH freeAtX freeAtY freeW freeH begins ends tried aside]) rfl dX11_append_35 (fun H locs hw => ?_)
      refine lv_aload_n hx hb dX11_append_36 rfl (lv_at hl 0 rfl) ?_
      refine lv_dup hx hb dX11_append_37 rfl ?_
      refine b_get hx hb hT hK hown fl_X11_104 hw 0 0 rfl rfl (v := .int length) rfl dX11_append_38 ?_
      refine lv_iconst (v := 1) hx hb dX11_append_41 (by decide) ?_
      refine lv_iadd hx hb dX11_append_42 ?_
      obtain ⟨x2, ex2, h⟩ := g_bd_nm h
      refine g_topi ex2 ?_
      refine b_putf hx hb hT hK hown fl_X11_104 ft_X11 hw 0 0 rfl rfl rfl rfl rfl (Nat.le_of_ble_eq_true rfl) rfl (wb' := [k_Model g a o pasts x2 printed told state backX backY boxes frees bestFree bestTurned bestFirst bestSecond v spare past kept isKept f1 paper left top wide high original turn boxX boxY boxW boxH freeAtX freeAtY freeW freeH begins ends tried aside]) rfl dX11_append_43 (fun H locs hw => ?_)
      refine lv_aload_n hx hb dX11_append_46 rfl (lv_at hl 0 rfl) ?_
      refine b_get hx hb hT hK hown fl_X11_104 hw 0 0 rfl rfl (v := .int x2) rfl dX11_append_47 ?_
      obtain rfl := Option.some.inj h
      exact b_iret hQ hx hb hr hlk hw rfl dX11_append_50
    · rw [if_pos hc20] at h
      refine lv_bipush (v := -2) hx hb dX11_append_23 (by decide) ?_
      obtain rfl := Option.some.inj h
      exact b_iret hQ hx hb hr hlk hw rfl dX11_append_25
  · rw [if_pos hc8] at h
    refine lv_iconst (v := -1) hx hb dX11_append_11 (by decide) ?_
    obtain rfl := Option.some.inj h
    exact b_iret hQ hx hb hr hlk hw rfl dX11_append_12
set_option maxRecDepth 100000 in
set_option maxHeartbeats 4000000 in
theorem c_X11_clearText (l : Launch) (D : va_G) (g : Nat → ClassId) (a : Nat → Nat) (o : Nat) (pasts : Int32) (length : Int32) (printed : Int32) (told : Int32) (state : Int64) (backX : Int32) (backY : Int32) (boxes : Int32) (frees : Int32) (bestFree : Int32) (bestTurned : Int32) (bestFirst : Int32) (bestSecond : Int32) (v : (Nat → Int32)) (spare : (Nat → Int32)) (past : (Nat → Int32)) (kept : (Nat → Int32)) (isKept : (Nat → Int32)) (text : (Nat → Int32)) (paper : (Nat → Int32)) (left : (Nat → Int32)) (top : (Nat → Int32)) (wide : (Nat → Int32)) (high : (Nat → Int32)) (original : (Nat → Int32)) (turn : (Nat → Int32)) (boxX : (Nat → Int32)) (boxY : (Nat → Int32)) (boxW : (Nat → Int32)) (boxH : (Nat → Int32)) (freeAtX : (Nat → Int32)) (freeAtY : (Nat → Int32)) (freeW : (Nat → Int32)) (freeH : (Nat → Int32)) (begins : (Nat → Int32)) (ends : (Nat → Int32)) (tried : (Nat → Int32)) (aside : (Nat → Int32)) (u : Int32 × Int32) (h : f_X11_clearText length = u) : b_Ct l yX11_clearText cX11_clearText 2 (some .int) 0 0 D g [.ref (a o)] [k_Model g a o pasts length printed told state backX backY boxes frees bestFree bestTurned bestFirst bestSecond v spare past kept isKept text paper left top wide high original turn boxX boxY boxW boxH freeAtX freeAtY freeW freeH begins ends tried aside] [k_Model g a o pasts u.2 printed told state backX backY boxes frees bestFree bestTurned bestFirst bestSecond v spare past kept isKept text paper left top wide high original turn boxX boxY boxW boxH freeAtX freeAtY freeW freeH begins ends tried aside] (some (.int u.1)) := by
  refine b_start RX11 (by decide) rfl (Nat.le_of_ble_eq_true rfl) rfl ?_
  intro p e s m args below meth c A ls Q hQ hx hb hr hlk hml hown hT hK hA hw hl
  have hl : lv_has ls 2 [(0, .ref (a o))] := hl
  unfold f_X11_clearText at h
  refine lv_aload_n hx hb dX11_clearText_0 rfl (lv_at hl 0 rfl) ?_
  refine b_get hx hb hT hK hown fl_X11_104 hw 0 0 rfl rfl (v := .int length) rfl dX11_clearText_1 ?_
  refine lv_istore_n (lv' := [(1, .int length), (0, .ref (a o))]) hx hb dX11_clearText_4 rfl hl (by decide) rfl (fun ls hl => ?_)
  refine lv_aload_n hx hb dX11_clearText_5 rfl (lv_at hl 1 rfl) ?_
  refine lv_iconst (v := 0) hx hb dX11_clearText_6 (by decide) ?_
  refine b_putf hx hb hT hK hown fl_X11_104 ft_X11 hw 0 0 rfl rfl rfl rfl rfl (Nat.le_of_ble_eq_true rfl) rfl (wb' := [k_Model g a o pasts (0 : Int32) printed told state backX backY boxes frees bestFree bestTurned bestFirst bestSecond v spare past kept isKept text paper left top wide high original turn boxX boxY boxW boxH freeAtX freeAtY freeW freeH begins ends tried aside]) rfl dX11_clearText_7 (fun H locs hw => ?_)
  refine lv_iload_n hx hb dX11_clearText_10 rfl (lv_at hl 0 rfl) ?_
  obtain rfl := h
  exact b_iret hQ hx hb hr hlk hw rfl dX11_clearText_11
