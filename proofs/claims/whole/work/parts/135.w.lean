set_option maxRecDepth 100000 in
set_option maxHeartbeats 4000000 in
theorem c_X10_packingCost (l : Launch) (D : va_G) (g : Nat → ClassId) (a : Nat → Nat) (rnd : Int64) (ST : Nat → Nat → Int32) (lefts : (Nat → Int32)) (tops : (Nat → Int32)) (cwidths : (Nat → Int32)) (cheights : (Nat → Int32)) (originals : (Nat → Int32)) (orients : (Nat → Int32)) (i1 : Int32) (u : Int64) (h : f_X10_packingCost ST cwidths cheights i1 = some u) : b_Ct l yX10_packingCost cX10_packingCost 5 (some .long) 2 44 D g [.ref (a 0), .int i1] [k_Atlas g a rnd, k_StO g a 17, k_Sheet g a 18 (ST 0 0) (ST 1) (ST 2) (ST 3) (ST 4), k_Settings g a 23 (ST 5 0) (ST 5 1) (ST 5 2) (ST 5 3) (ST 5 4) (ST 5 5) (ST 5 6) (ST 5 7) (ST 5 8) (ST 5 9) (ST 5 10) (ST 5 11), k_Places g a 24 (ST 6 0) (ST 7) (ST 8) (ST 9) (ST 10) (ST 11), k_Catalog g a 30 lefts tops cwidths cheights originals orients, k_PkO g a 44 (a 17) (a 30)] [k_Atlas g a rnd, k_StO g a 17, k_Sheet g a 18 (ST 0 0) (ST 1) (ST 2) (ST 3) (ST 4), k_Settings g a 23 (ST 5 0) (ST 5 1) (ST 5 2) (ST 5 3) (ST 5 4) (ST 5 5) (ST 5 6) (ST 5 7) (ST 5 8) (ST 5 9) (ST 5 10) (ST 5 11), k_Places g a 24 (ST 6 0) (ST 7) (ST 8) (ST 9) (ST 10) (ST 11), k_Catalog g a 30 lefts tops cwidths cheights originals orients, k_PkO g a 44 (a 17) (a 30)] (some (.long u)) := by
  refine b_start RX10 (by decide) rfl (Nat.le_of_ble_eq_true rfl) rfl ?_
  intro p e s m args below meth c A ls Q hQ hx hb hr hlk hml hown hT hK hA hw hl
  have hl : lv_has ls 5 [(0, .ref (a 0)), (1, .int i1)] := hl
  unfold f_X10_packingCost at h
  refine lv_lconst (v := 0) hx hb dX10_packingCost_0 (by decide) ?_
  refine lv_lstore_n (lv' := [(2, .long (0 : Int64)), (0, .ref (a 0)), (1, .int i1)]) hx hb dX10_packingCost_1 rfl hl (by decide) rfl (fun ls hl => ?_)
  refine lv_iconst (v := 0) hx hb dX10_packingCost_2 (by decide) ?_
  refine lv_istore (lv' := [(4, .int (0 : Int32)), (2, .long (0 : Int64)), (0, .ref (a 0)), (1, .int i1)]) hx hb dX10_packingCost_3 hl (by decide) rfl (fun ls hl => ?_)
  obtain ⟨k49_1, ek49_1, h⟩ := g_jn_nm h
  have hk49_1 : ∀ (y1 : Int64) (H : Heap) (locs : List Loc) (ls : Array Slot), b_Wd D A s.heap H locs [k_Atlas g a rnd, k_StO g a 17, k_Sheet g a 18 (ST 0 0) (ST 1) (ST 2) (ST 3) (ST 4), k_Settings g a 23 (ST 5 0) (ST 5 1) (ST 5 2) (ST 5 3) (ST 5 4) (ST 5 5) (ST 5 6) (ST 5 7) (ST 5 8) (ST 5 9) (ST 5 10) (ST 5 11), k_Places g a 24 (ST 6 0) (ST 7) (ST 8) (ST 9) (ST 10) (ST 11), k_Catalog g a 30 lefts tops cwidths cheights originals orients, k_PkO g a 44 (a 17) (a 30)] → lv_has ls 5 [(0, .ref (a 0)), (1, .int i1), (2, .long y1)] → k49_1 y1 = some u → W p l e (g_rm 2 44) s m args below meth c H locs 0 0 Q (F0 m 49 ls []) := by
    intro y1 H locs ls hw hl h
    subst ek49_1
    dsimp only at h
    refine lv_iload_n hx hb dX10_packingCost_49 rfl (lv_at hl 1 rfl) ?_
    refine lv_i2l hx hb dX10_packingCost_50 rfl ?_
    refine lv_ldc2 hx hb hown (hT _ kc_X10_401) dX10_packingCost_51 ?_
    refine lv_lmul hx hb dX10_packingCost_54 ?_
    refine lv_aload_n hx hb dX10_packingCost_55 rfl (lv_at hl 0 rfl) ?_
    refine b_get hx hb hT hK hown fl_X10_50 hw 0 0 rfl rfl (v := .ref (a 17)) rfl dX10_packingCost_56 ?_
    refine b_get hx hb hT hK hown fl_X10_214 hw 1 0 rfl rfl (v := .ref (a 24)) rfl dX10_packingCost_59 ?_
    refine b_get hx hb hT hK hown fl_X10_259 hw 4 0 rfl rfl (v := .int (ST 6 0)) rfl dX10_packingCost_62 ?_
    refine lv_i2l hx hb dX10_packingCost_65 rfl ?_
    refine lv_ladd hx hb dX10_packingCost_66 ?_
    refine lv_ldc2 hx hb hown (hT _ kc_X10_403) dX10_packingCost_67 ?_
    refine lv_lmul hx hb dX10_packingCost_70 ?_
    refine lv_lload_n hx hb dX10_packingCost_71 rfl (lv_at hl 2 rfl) ?_
    refine lv_ladd hx hb dX10_packingCost_72 ?_
    obtain rfl := Option.some.inj h
    exact b_lret hQ hx hb hr hlk hw rfl dX10_packingCost_73
  have hL5 : ∀ (n : Nat) (y3 : Int64) (x4 : Int32) (H : Heap) (locs : List Loc) (ls : Array Slot), b_Wd D A s.heap H locs [k_Atlas g a rnd, k_StO g a 17, k_Sheet g a 18 (ST 0 0) (ST 1) (ST 2) (ST 3) (ST 4), k_Settings g a 23 (ST 5 0) (ST 5 1) (ST 5 2) (ST 5 3) (ST 5 4) (ST 5 5) (ST 5 6) (ST 5 7) (ST 5 8) (ST 5 9) (ST 5 10) (ST 5 11), k_Places g a 24 (ST 6 0) (ST 7) (ST 8) (ST 9) (ST 10) (ST 11), k_Catalog g a 30 lefts tops cwidths cheights originals orients, k_PkO g a 44 (a 17) (a 30)] → lv_has ls 5 [(0, .ref (a 0)), (1, .int i1), (2, .long y3), (4, .int x4)] → f_X10_packingCost_L5 ST cwidths cheights k49_1 n y3 x4 = some u → W p l e (g_rm 2 44) s m args below meth c H locs 0 0 Q (F0 m 5 ls []) := by
    intro n
    induction n with
    | zero =>
      intro y3 x4 H locs ls hw hl h
      cases (show none = some u from h)
    | succ n ih5 =>
      intro y3 x4 H locs ls hw hl h
      rw [f_X10_packingCost_L5] at h
      refine lv_iload hx hb dX10_packingCost_5 (lv_at hl 3 rfl) ?_
      refine lv_aload_n hx hb dX10_packingCost_7 rfl (lv_at hl 0 rfl) ?_
      refine b_get hx hb hT hK hown fl_X10_50 hw 0 0 rfl rfl (v := .ref (a 17)) rfl dX10_packingCost_8 ?_
      refine b_get hx hb hT hK hown fl_X10_214 hw 1 0 rfl rfl (v := .ref (a 24)) rfl dX10_packingCost_11 ?_
      refine b_get hx hb hT hK hown fl_X10_259 hw 4 0 rfl rfl (v := .int (ST 6 0)) rfl dX10_packingCost_14 ?_
      refine lv_icmp_ge (tgt := 49) hx hb dX10_packingCost_17 (by decide) (fun hc17 => ?_) (fun hc17 => ?_)
      · rw [if_pos hc17] at h
        exact hk49_1 y3 _ _ _ hw (lv_sub hl [0, 1, 2] rfl) h
      · rw [if_neg hc17] at h
        refine lv_lload_n hx hb dX10_packingCost_20 rfl (lv_at hl 2 rfl) ?_
        refine lv_aload_n hx hb dX10_packingCost_21 rfl (lv_at hl 0 rfl) ?_
        refine b_get hx hb hT hK hown fl_X10_66 hw 0 0 rfl rfl (v := .ref (a 44)) rfl dX10_packingCost_22 ?_
        refine lv_iload hx hb dX10_packingCost_25 (lv_at hl 3 rfl) ?_
        obtain ⟨r5, er5, h⟩ := g_cl_some h
        refine b_callV hx hb hml hown hT hK hA hw mk_X10_274 (c_X3_usedColumns l D g a 44 a 17 a 30 ST lefts tops cwidths cheights originals orients x4 r5 er5) [6, 1, 2, 3, 4, 5] [0] rfl (by decide) 6 0 rfl rfl rfl rfl hl.1 [.long y3] rfl (Nat.le_of_ble_eq_true rfl) ⟨Nat.le_of_ble_eq_true rfl, Nat.le_of_ble_eq_true rfl⟩ ⟨Nat.zero_le _, Nat.zero_le _⟩ dX10_packingCost_27 (wb' := [k_Atlas g a rnd, k_StO g a 17, k_Sheet g a 18 (ST 0 0) (ST 1) (ST 2) (ST 3) (ST 4), k_Settings g a 23 (ST 5 0) (ST 5 1) (ST 5 2) (ST 5 3) (ST 5 4) (ST 5 5) (ST 5 6) (ST 5 7) (ST 5 8) (ST 5 9) (ST 5 10) (ST 5 11), k_Places g a 24 (ST 6 0) (ST 7) (ST 8) (ST 9) (ST 10) (ST 11), k_Catalog g a 30 lefts tops cwidths cheights originals orients, k_PkO g a 44 (a 17) (a 30)]) rfl (b_e1 rfl b_e0) 7 rfl (by decide) (st2 := [.int r5, .long y3]) rfl (fun H locs hw => ?_)
        refine lv_aload_n hx hb dX10_packingCost_30 rfl (lv_at hl 0 rfl) ?_
        refine b_get hx hb hT hK hown fl_X10_66 hw 0 0 rfl rfl (v := .ref (a 44)) rfl dX10_packingCost_31 ?_
        refine lv_iload hx hb dX10_packingCost_34 (lv_at hl 3 rfl) ?_
        obtain ⟨r6, er6, h⟩ := g_cl_some h
        refine b_callV hx hb hml hown hT hK hA hw mk_X10_277 (c_X3_usedRows l D g a 44 a 17 a 30 ST lefts tops cwidths cheights originals orients x4 r6 er6) [6, 1, 2, 3, 4, 5] [0] rfl (by decide) 6 0 rfl rfl rfl rfl hl.1 [.int r5, .long y3] rfl (Nat.le_of_ble_eq_true rfl) ⟨Nat.le_of_ble_eq_true rfl, Nat.le_of_ble_eq_true rfl⟩ ⟨Nat.zero_le _, Nat.zero_le _⟩ dX10_packingCost_36 (wb' := [k_Atlas g a rnd, k_StO g a 17, k_Sheet g a 18 (ST 0 0) (ST 1) (ST 2) (ST 3) (ST 4), k_Settings g a 23 (ST 5 0) (ST 5 1) (ST 5 2) (ST 5 3) (ST 5 4) (ST 5 5) (ST 5 6) (ST 5 7) (ST 5 8) (ST 5 9) (ST 5 10) (ST 5 11), k_Places g a 24 (ST 6 0) (ST 7) (ST 8) (ST 9) (ST 10) (ST 11), k_Catalog g a 30 lefts tops cwidths cheights originals orients, k_PkO g a 44 (a 17) (a 30)]) rfl (b_e1 rfl b_e0) 7 rfl (by decide) (st2 := [.int r6, .int r5, .long y3]) rfl (fun H locs hw => ?_)
        refine lv_imul hx hb dX10_packingCost_39 ?_
        refine lv_i2l hx hb dX10_packingCost_40 rfl ?_
        refine lv_ladd hx hb dX10_packingCost_41 ?_
        obtain ⟨y7, ey7, h⟩ := g_bd_nm h
        refine g_topl ey7 ?_
        refine lv_lstore_n (lv' := [(2, .long y7), (0, .ref (a 0)), (1, .int i1), (4, .int x4)]) hx hb dX10_packingCost_42 rfl hl (by decide) rfl (fun ls hl => ?_)
        obtain ⟨x8, ex8, h⟩ := g_bd_nm h
        refine lv_iinc (v := x8) (lv' := [(4, .int x8), (2, .long y7), (0, .ref (a 0)), (1, .int i1)]) hx hb dX10_packingCost_43 hl (k := 3) rfl (by rw [ex8]; rfl) (by decide) rfl (fun ls hl => ?_)
        refine lv_goto (tgt := 5) hx hb dX10_packingCost_46 (by decide) ?_
        exact ih5 y7 x8 _ _ _ hw (lv_sub hl [2, 3, 1, 0] rfl) h
  exact hL5 g_fuel (0 : Int64) (0 : Int32) _ _ _ hw (lv_sub hl [2, 3, 1, 0] rfl) h
set_option maxRecDepth 100000 in
set_option maxHeartbeats 4000000 in
theorem c_X10_bestMethod (l : Launch) (D : va_G) (g : Nat → ClassId) (a : Nat → Nat) (rnd : Int64) (S : Nat → Nat → Int32) (ST : Nat → Nat → Int32) (lefts : (Nat → Int32)) (tops : (Nat → Int32)) (cwidths : (Nat → Int32)) (cheights : (Nat → Int32)) (originals : (Nat → Int32)) (orients : (Nat → Int32)) (spWT : Int32) (spHT : Int32) (frT : (Nat → Int64)) (codesT : (Nat → Int32)) (countsT : (Nat → Int32)) (chFoundT : Int32) (chPageT : Int32) (chColT : Int32) (chRowT : Int32) (chTurnedT : Int32) (chFirstT : Int32) (chSecondT : Int32) (lineT : (Nat → Int32)) (u : Int32 × (Nat → Nat → Int32) × Int32 × Int32 × (Nat → Int64) × (Nat → Int32) × (Nat → Int32) × Int32 × Int32 × Int32 × Int32 × Int32 × Int32 × Int32 × (Nat → Int32)) (h : f_X10_bestMethod S ST cwidths cheights originals spWT spHT frT codesT countsT chFoundT chPageT chColT chRowT chTurnedT chFirstT chSecondT lineT = some u) : b_Ct l yX10_bestMethod cX10_bestMethod 8 (some .int) 7 164 D g [.ref (a 0)] [k_Atlas g a rnd, k_StO g a 4, k_Sheet g a 5 (S 0 0) (S 1) (S 2) (S 3) (S 4), k_Settings g a 10 (S 5 0) (S 5 1) (S 5 2) (S 5 3) (S 5 4) (S 5 5) (S 5 6) (S 5 7) (S 5 8) (S 5 9) (S 5 10) (S 5 11), k_Places g a 11 (S 6 0) (S 7) (S 8) (S 9) (S 10) (S 11), k_StO g a 17, k_Sheet g a 18 (ST 0 0) (ST 1) (ST 2) (ST 3) (ST 4), k_Settings g a 23 (ST 5 0) (ST 5 1) (ST 5 2) (ST 5 3) (ST 5 4) (ST 5 5) (ST 5 6) (ST 5 7) (ST 5 8) (ST 5 9) (ST 5 10) (ST 5 11), k_Places g a 24 (ST 6 0) (ST 7) (ST 8) (ST 9) (ST 10) (ST 11), k_Catalog g a 30 lefts tops cwidths cheights originals orients, k_PkO g a 44 (a 17) (a 30), k_Space g a 45 spWT spHT frT codesT countsT, k_Choice g a 49 chFoundT chPageT chColT chRowT chTurnedT chFirstT chSecondT, k_Line g a 50 lineT] [k_Atlas g a rnd, k_StO g a 4, k_Sheet g a 5 (S 0 0) (S 1) (S 2) (S 3) (S 4), k_Settings g a 10 (S 5 0) (S 5 1) (S 5 2) (S 5 3) (S 5 4) (S 5 5) (S 5 6) (S 5 7) (S 5 8) (S 5 9) (S 5 10) (S 5 11), k_Places g a 11 (S 6 0) (S 7) (S 8) (S 9) (S 10) (S 11), k_StO g a 17, k_Sheet g a 18 (u.2.1 0 0) (u.2.1 1) (u.2.1 2) (u.2.1 3) (u.2.1 4), k_Settings g a 23 (u.2.1 5 0) (u.2.1 5 1) (u.2.1 5 2) (u.2.1 5 3) (u.2.1 5 4) (u.2.1 5 5) (u.2.1 5 6) (u.2.1 5 7) (u.2.1 5 8) (u.2.1 5 9) (u.2.1 5 10) (u.2.1 5 11), k_Places g a 24 (u.2.1 6 0) (u.2.1 7) (u.2.1 8) (u.2.1 9) (u.2.1 10) (u.2.1 11), k_Catalog g a 30 lefts tops cwidths cheights originals orients, k_PkO g a 44 (a 17) (a 30), k_Space g a 45 u.2.2.1 u.2.2.2.1 u.2.2.2.2.1 u.2.2.2.2.2.1 u.2.2.2.2.2.2.1, k_Choice g a 49 u.2.2.2.2.2.2.2.1 u.2.2.2.2.2.2.2.2.1 u.2.2.2.2.2.2.2.2.2.1 u.2.2.2.2.2.2.2.2.2.2.1 u.2.2.2.2.2.2.2.2.2.2.2.1 u.2.2.2.2.2.2.2.2.2.2.2.2.1 u.2.2.2.2.2.2.2.2.2.2.2.2.2.1, k_Line g a 50 u.2.2.2.2.2.2.2.2.2.2.2.2.2.2] (some (.int u.1)) := by
  refine b_start RX10 (by decide) rfl (Nat.le_of_ble_eq_true rfl) rfl ?_
  intro p e s m args below meth c A ls Q hQ hx hb hr hlk hml hown hT hK hA hw hl
  have hl : lv_has ls 8 [(0, .ref (a 0))] := hl
  unfold f_X10_bestMethod at h
  refine lv_aload_n hx hb dX10_bestMethod_0 rfl (lv_at hl 0 rfl) ?_
  refine b_get hx hb hT hK hown fl_X10_50 hw 0 0 rfl rfl (v := .ref (a 17)) rfl dX10_bestMethod_1 ?_
  refine lv_aload_n hx hb dX10_bestMethod_4 rfl (lv_at hl 0 rfl) ?_
  refine b_get hx hb hT hK hown fl_X10_47 hw 0 0 rfl rfl (v := .ref (a 4)) rfl dX10_bestMethod_5 ?_
  obtain ⟨r1, er1, h⟩ := g_cl_some h
  refine b_callV hx hb hml hown hT hK hA hw mk_X10_321 (c_X8_copyFrom l D g a 17 a 4 ST S r1 er1) [5, 6, 7, 8, 1, 2, 3, 4] [0, 9, 10, 11, 12, 13] rfl (by decide) 5 0 rfl rfl rfl rfl hl.1 [] rfl (Nat.le_of_ble_eq_true rfl) ⟨Nat.le_of_ble_eq_true rfl, Nat.le_of_ble_eq_true rfl⟩ ⟨Nat.zero_le _, Nat.zero_le _⟩ dX10_bestMethod_8 (wb' := [k_Atlas g a rnd, k_StO g a 4, k_Sheet g a 5 (S 0 0) (S 1) (S 2) (S 3) (S 4), k_Settings g a 10 (S 5 0) (S 5 1) (S 5 2) (S 5 3) (S 5 4) (S 5 5) (S 5 6) (S 5 7) (S 5 8) (S 5 9) (S 5 10) (S 5 11), k_Places g a 11 (S 6 0) (S 7) (S 8) (S 9) (S 10) (S 11), k_StO g a 17, k_Sheet g a 18 (r1 0 0) (r1 1) (r1 2) (r1 3) (r1 4), k_Settings g a 23 (r1 5 0) (r1 5 1) (r1 5 2) (r1 5 3) (r1 5 4) (r1 5 5) (r1 5 6) (r1 5 7) (r1 5 8) (r1 5 9) (r1 5 10) (r1 5 11), k_Places g a 24 (r1 6 0) (r1 7) (r1 8) (r1 9) (r1 10) (r1 11), k_Catalog g a 30 lefts tops cwidths cheights originals orients, k_PkO g a 44 (a 17) (a 30), k_Space g a 45 spWT spHT frT codesT countsT, k_Choice g a 49 chFoundT chPageT chColT chRowT chTurnedT chFirstT chSecondT, k_Line g a 50 lineT]) rfl (b_e1 rfl (b_e1 rfl (b_e1 rfl (b_e1 rfl (b_e1 rfl (b_e1 rfl b_e0)))))) 14 rfl (by decide) (st2 := []) rfl (fun H locs hw => ?_)
  refine lv_iconst (v := 0) hx hb dX10_bestMethod_11 (by decide) ?_
  refine lv_istore_n (lv' := [(1, .int (0 : Int32)), (0, .ref (a 0))]) hx hb dX10_bestMethod_12 rfl hl (by decide) rfl (fun ls hl => ?_)
  refine lv_ldc2 hx hb hown (hT _ kc_X10_324) dX10_bestMethod_13 ?_
  refine lv_lstore_n (lv' := [(2, .long (1000000000 : Int64)), (1, .int (0 : Int32)), (0, .ref (a 0))]) hx hb dX10_bestMethod_16 rfl hl (by decide) rfl (fun ls hl => ?_)
  refine lv_iconst (v := 0) hx hb dX10_bestMethod_17 (by decide) ?_
  refine lv_istore (lv' := [(4, .int (0 : Int32)), (2, .long (1000000000 : Int64)), (1, .int (0 : Int32)), (0, .ref (a 0))]) hx hb dX10_bestMethod_18 hl (by decide) rfl (fun ls hl => ?_)
  have hL20 : ∀ (n : Nat) (x2 : Int32) (y3 : Int64) (x4 : Int32) (S5 : Nat → Nat → Int32) (x6 : Int32) (x7 : Int32) (f8 : Nat → Int64) (f9 : Nat → Int32) (f10 : Nat → Int32) (x11 : Int32) (x12 : Int32) (x13 : Int32) (x14 : Int32) (x15 : Int32) (x16 : Int32) (x17 : Int32) (f18 : Nat → Int32) (H : Heap) (locs : List Loc) (ls : Array Slot), b_Wd D A s.heap H locs [k_Atlas g a rnd, k_StO g a 4, k_Sheet g a 5 (S 0 0) (S 1) (S 2) (S 3) (S 4), k_Settings g a 10 (S 5 0) (S 5 1) (S 5 2) (S 5 3) (S 5 4) (S 5 5) (S 5 6) (S 5 7) (S 5 8) (S 5 9) (S 5 10) (S 5 11), k_Places g a 11 (S 6 0) (S 7) (S 8) (S 9) (S 10) (S 11), k_StO g a 17, k_Sheet g a 18 (r1 0 0) (r1 1) (r1 2) (r1 3) (r1 4), k_Settings g a 23 (r1 5 0) (r1 5 1) (r1 5 2) (r1 5 3) (r1 5 4) (r1 5 5) (r1 5 6) (r1 5 7) (r1 5 8) (r1 5 9) (S5 5 10) (S5 5 11), k_Places g a 24 (S5 6 0) (S5 7) (S5 8) (S5 9) (S5 10) (S5 11), k_Catalog g a 30 lefts tops cwidths cheights originals orients, k_PkO g a 44 (a 17) (a 30), k_Space g a 45 x6 x7 f8 f9 f10, k_Choice g a 49 x11 x12 x13 x14 x15 x16 x17, k_Line g a 50 f18] → lv_has ls 8 [(0, .ref (a 0)), (1, .int x2), (2, .long y3), (4, .int x4)] → f_X10_bestMethod_L20 cwidths cheights originals r1 n x2 y3 x4 S5 x6 x7 f8 f9 f10 x11 x12 x13 x14 x15 x16 x17 f18 = some u → W p l e (g_rm 7 164) s m args below meth c H locs 0 0 Q (F0 m 20 ls []) := by
    intro n
    induction n with
    | zero =>
      intro x2 y3 x4 S5 x6 x7 f8 f9 f10 x11 x12 x13 x14 x15 x16 x17 f18 H locs ls hw hl h
      cases (show none = some u from h)
    | succ n ih20 =>
      intro x2 y3 x4 S5 x6 x7 f8 f9 f10 x11 x12 x13 x14 x15 x16 x17 f18 H locs ls hw hl h
      rw [f_X10_bestMethod_L20] at h
      refine lv_iload hx hb dX10_bestMethod_20 (lv_at hl 3 rfl) ?_
      refine lv_iconst (v := 3) hx hb dX10_bestMethod_22 (by decide) ?_
      refine lv_icmp_gt (tgt := 103) hx hb dX10_bestMethod_23 (by decide) (fun hc23 => ?_) (fun hc23 => ?_)
      · rw [if_pos hc23] at h
        refine lv_iload_n hx hb dX10_bestMethod_103 rfl (lv_at hl 1 rfl) ?_
        obtain rfl := Option.some.inj h
        exact b_iret hQ hx hb hr hlk hw rfl dX10_bestMethod_104
      · rw [if_neg hc23] at h
        refine lv_iconst (v := 0) hx hb dX10_bestMethod_26 (by decide) ?_
        refine lv_istore (lv' := [(5, .int (0 : Int32)), (0, .ref (a 0)), (1, .int x2), (2, .long y3), (4, .int x4)]) hx hb dX10_bestMethod_27 hl (by decide) rfl (fun ls hl => ?_)
        obtain ⟨k97_34, ek97_34, h⟩ := g_jn_nm h
        have hk97_34 : ∀ (x19 : Int32) (y20 : Int64) (S21 : Nat → Nat → Int32) (x22 : Int32) (x23 : Int32) (f24 : Nat → Int64) (f25 : Nat → Int32) (f26 : Nat → Int32) (x27 : Int32) (x28 : Int32) (x29 : Int32) (x30 : Int32) (x31 : Int32) (x32 : Int32) (x33 : Int32) (f34 : Nat → Int32) (H : Heap) (locs : List Loc) (ls : Array Slot), b_Wd D A s.heap H locs [k_Atlas g a rnd, k_StO g a 4, k_Sheet g a 5 (S 0 0) (S 1) (S 2) (S 3) (S 4), k_Settings g a 10 (S 5 0) (S 5 1) (S 5 2) (S 5 3) (S 5 4) (S 5 5) (S 5 6) (S 5 7) (S 5 8) (S 5 9) (S 5 10) (S 5 11), k_Places g a 11 (S 6 0) (S 7) (S 8) (S 9) (S 10) (S 11), k_StO g a 17, k_Sheet g a 18 (r1 0 0) (r1 1) (r1 2) (r1 3) (r1 4), k_Settings g a 23 (r1 5 0) (r1 5 1) (r1 5 2) (r1 5 3) (r1 5 4) (r1 5 5) (r1 5 6) (r1 5 7) (r1 5 8) (r1 5 9) (S21 5 10) (S21 5 11), k_Places g a 24 (S21 6 0) (S21 7) (S21 8) (S21 9) (S21 10) (S21 11), k_Catalog g a 30 lefts tops cwidths cheights originals orients, k_PkO g a 44 (a 17) (a 30), k_Space g a 45 x22 x23 f24 f25 f26, k_Choice g a 49 x27 x28 x29 x30 x31 x32 x33, k_Line g a 50 f34] → lv_has ls 8 [(0, .ref (a 0)), (1, .int x19), (2, .long y20), (4, .int x4)] → k97_34 x19 y20 S21 x22 x23 f24 f25 f26 x27 x28 x29 x30 x31 x32 x33 f34 = some u → W p l e (g_rm 7 164) s m args below meth c H locs 0 0 Q (F0 m 97 ls []) := by
          intro x19 y20 S21 x22 x23 f24 f25 f26 x27 x28 x29 x30 x31 x32 x33 f34 H locs ls hw hl h
          subst ek97_34
          dsimp only at h
          obtain ⟨x36, ex36, h⟩ := g_bd_nm h
          refine lv_iinc (v := x36) (lv' := [(4, .int x36), (0, .ref (a 0)), (1, .int x19), (2, .long y20)]) hx hb dX10_bestMethod_97 hl (k := 3) rfl (by rw [ex36]; rfl) (by decide) rfl (fun ls hl => ?_)
          refine lv_goto (tgt := 20) hx hb dX10_bestMethod_100 (by decide) ?_
          exact ih20 x19 y20 x36 (updC (updC (updC (updC (updC (updC (updC r1 5 (upd (upd (r1 5) 10 (S21 5 10)) 11 (S21 5 11))) 6 (upd (r1 6) 0 (S21 6 0))) 7 (S21 7)) 8 (S21 8)) 9 (S21 9)) 10 (S21 10)) 11 (S21 11)) x22 x23 f24 f25 f26 x27 x28 x29 x30 x31 x32 x33 f34 _ _ _ hw (lv_sub hl [1, 2, 3, 0] rfl) h
        have hL29 : ∀ (n : Nat) (x37 : Int32) (y38 : Int64) (x39 : Int32) (S40 : Nat → Nat → Int32) (x41 : Int32) (x42 : Int32) (f43 : Nat → Int64) (f44 : Nat → Int32) (f45 : Nat → Int32) (x46 : Int32) (x47 : Int32) (x48 : Int32) (x49 : Int32) (x50 : Int32) (x51 : Int32) (x52 : Int32) (f53 : Nat → Int32) (H : Heap) (locs : List Loc) (ls : Array Slot), b_Wd D A s.heap H locs [k_Atlas g a rnd, k_StO g a 4, k_Sheet g a 5 (S 0 0) (S 1) (S 2) (S 3) (S 4), k_Settings g a 10 (S 5 0) (S 5 1) (S 5 2) (S 5 3) (S 5 4) (S 5 5) (S 5 6) (S 5 7) (S 5 8) (S 5 9) (S 5 10) (S 5 11), k_Places g a 11 (S 6 0) (S 7) (S 8) (S 9) (S 10) (S 11), k_StO g a 17, k_Sheet g a 18 (r1 0 0) (r1 1) (r1 2) (r1 3) (r1 4), k_Settings g a 23 (r1 5 0) (r1 5 1) (r1 5 2) (r1 5 3) (r1 5 4) (r1 5 5) (r1 5 6) (r1 5 7) (r1 5 8) (r1 5 9) (S40 5 10) (S40 5 11), k_Places g a 24 (S40 6 0) (S40 7) (S40 8) (S40 9) (S40 10) (S40 11), k_Catalog g a 30 lefts tops cwidths cheights originals orients, k_PkO g a 44 (a 17) (a 30), k_Space g a 45 x41 x42 f43 f44 f45, k_Choice g a 49 x46 x47 x48 x49 x50 x51 x52, k_Line g a 50 f53] → lv_has ls 8 [(0, .ref (a 0)), (1, .int x37), (2, .long y38), (4, .int x4), (5, .int x39)] → f_X10_bestMethod_L29 cwidths cheights originals r1 x4 k97_34 n x37 y38 x39 S40 x41 x42 f43 f44 f45 x46 x47 x48 x49 x50 x51 x52 f53 = some u → W p l e (g_rm 7 164) s m args below meth c H locs 0 0 Q (F0 m 29 ls []) := by
          intro n
          induction n with
          | zero =>
            intro x37 y38 x39 S40 x41 x42 f43 f44 f45 x46 x47 x48 x49 x50 x51 x52 f53 H locs ls hw hl h
            cases (show none = some u from h)
          | succ n ih29 =>
            intro x37 y38 x39 S40 x41 x42 f43 f44 f45 x46 x47 x48 x49 x50 x51 x52 f53 H locs ls hw hl h
            rw [f_X10_bestMethod_L29] at h
            refine lv_iload hx hb dX10_bestMethod_29 (lv_at hl 4 rfl) ?_
            refine lv_iconst (v := 3) hx hb dX10_bestMethod_31 (by decide) ?_
            refine lv_icmp_gt (tgt := 97) hx hb dX10_bestMethod_32 (by decide) (fun hc32 => ?_) (fun hc32 => ?_)
            · rw [if_pos hc32] at h
              exact hk97_34 x37 y38 (updC (updC (updC (updC (updC (updC (updC r1 5 (upd (upd (r1 5) 10 (S40 5 10)) 11 (S40 5 11))) 6 (upd (r1 6) 0 (S40 6 0))) 7 (S40 7)) 8 (S40 8)) 9 (S40 9)) 10 (S40 10)) 11 (S40 11)) x41 x42 f43 f44 f45 x46 x47 x48 x49 x50 x51 x52 f53 _ _ _ hw (lv_sub hl [0, 1, 2, 3] rfl) h
            · rw [if_neg hc32] at h
              refine lv_aload_n hx hb dX10_bestMethod_35 rfl (lv_at hl 0 rfl) ?_
              refine b_get hx hb hT hK hown fl_X10_50 hw 0 0 rfl rfl (v := .ref (a 17)) rfl dX10_bestMethod_36 ?_
              refine b_get hx hb hT hK hown fl_X10_105 hw 5 0 rfl rfl (v := .ref (a 23)) rfl dX10_bestMethod_39 ?_
              refine lv_iload hx hb dX10_bestMethod_42 (lv_at hl 3 rfl) ?_
              refine b_putf hx hb hT hK hown fl_X10_202 ft_X5 hw 7 0 rfl rfl rfl rfl rfl (Nat.le_of_ble_eq_true rfl) rfl (wb' := [k_Atlas g a rnd, k_StO g a 4, k_Sheet g a 5 (S 0 0) (S 1) (S 2) (S 3) (S 4), k_Settings g a 10 (S 5 0) (S 5 1) (S 5 2) (S 5 3) (S 5 4) (S 5 5) (S 5 6) (S 5 7) (S 5 8) (S 5 9) (S 5 10) (S 5 11), k_Places g a 11 (S 6 0) (S 7) (S 8) (S 9) (S 10) (S 11), k_StO g a 17, k_Sheet g a 18 (r1 0 0) (r1 1) (r1 2) (r1 3) (r1 4), k_Settings g a 23 (r1 5 0) (r1 5 1) (r1 5 2) (r1 5 3) (r1 5 4) (r1 5 5) (r1 5 6) (r1 5 7) (r1 5 8) (r1 5 9) x4 (S40 5 11), k_Places g a 24 (S40 6 0) (S40 7) (S40 8) (S40 9) (S40 10) (S40 11), k_Catalog g a 30 lefts tops cwidths cheights originals orients, k_PkO g a 44 (a 17) (a 30), k_Space g a 45 x41 x42 f43 f44 f45, k_Choice g a 49 x46 x47 x48 x49 x50 x51 x52, k_Line g a 50 f53]) rfl dX10_bestMethod_44 (fun H locs hw => ?_)
              refine lv_aload_n hx hb dX10_bestMethod_47 rfl (lv_at hl 0 rfl) ?_
              refine b_get hx hb hT hK hown fl_X10_50 hw 0 0 rfl rfl (v := .ref (a 17)) rfl dX10_bestMethod_48 ?_
              refine b_get hx hb hT hK hown fl_X10_105 hw 5 0 rfl rfl (v := .ref (a 23)) rfl dX10_bestMethod_51 ?_
              refine lv_iload hx hb dX10_bestMethod_54 (lv_at hl 4 rfl) ?_
              refine b_putf hx hb hT hK hown fl_X10_205 ft_X5 hw 7 0 rfl rfl rfl rfl rfl (Nat.le_of_ble_eq_true rfl) rfl (wb' := [k_Atlas g a rnd, k_StO g a 4, k_Sheet g a 5 (S 0 0) (S 1) (S 2) (S 3) (S 4), k_Settings g a 10 (S 5 0) (S 5 1) (S 5 2) (S 5 3) (S 5 4) (S 5 5) (S 5 6) (S 5 7) (S 5 8) (S 5 9) (S 5 10) (S 5 11), k_Places g a 11 (S 6 0) (S 7) (S 8) (S 9) (S 10) (S 11), k_StO g a 17, k_Sheet g a 18 (r1 0 0) (r1 1) (r1 2) (r1 3) (r1 4), k_Settings g a 23 (r1 5 0) (r1 5 1) (r1 5 2) (r1 5 3) (r1 5 4) (r1 5 5) (r1 5 6) (r1 5 7) (r1 5 8) (r1 5 9) x4 x39, k_Places g a 24 (S40 6 0) (S40 7) (S40 8) (S40 9) (S40 10) (S40 11), k_Catalog g a 30 lefts tops cwidths cheights originals orients, k_PkO g a 44 (a 17) (a 30), k_Space g a 45 x41 x42 f43 f44 f45, k_Choice g a 49 x46 x47 x48 x49 x50 x51 x52, k_Line g a 50 f53]) rfl dX10_bestMethod_56 (fun H locs hw => ?_)
              refine lv_aload_n hx hb dX10_bestMethod_59 rfl (lv_at hl 0 rfl) ?_
              refine lv_aload_n hx hb dX10_bestMethod_60 rfl (lv_at hl 0 rfl) ?_
              refine b_get hx hb hT hK hown fl_X10_66 hw 0 0 rfl rfl (v := .ref (a 44)) rfl dX10_bestMethod_61 ?_
              obtain ⟨r54, er54, h⟩ := g_cl_some h
              refine b_callV hx hb hml hown hT hK hA hw mk_X10_208 (c_X3_placeAll l D g a 44 a 17 a 30 x41 x42 f43 f44 f45 x46 x47 x48 x49 x50 x51 x52 f53 (updC (updC (updC (updC (updC (updC (updC r1 5 (upd (upd (r1 5) 10 x4) 11 x39)) 6 (upd (r1 6) 0 (S40 6 0))) 7 (S40 7)) 8 (S40 8)) 9 (S40 9)) 10 (S40 10)) 11 (S40 11)) lefts tops cwidths cheights originals orients r54 er54) [10, 11, 12, 13, 5, 6, 7, 8, 9] [0, 1, 2, 3, 4] rfl (by decide) 10 0 rfl rfl rfl rfl hl.1 [.ref (a 0)] rfl (Nat.le_of_ble_eq_true rfl) ⟨Nat.le_of_ble_eq_true rfl, Nat.le_of_ble_eq_true rfl⟩ ⟨Nat.zero_le _, Nat.zero_le _⟩ dX10_bestMethod_64 (wb' := [k_Atlas g a rnd, k_StO g a 4, k_Sheet g a 5 (S 0 0) (S 1) (S 2) (S 3) (S 4), k_Settings g a 10 (S 5 0) (S 5 1) (S 5 2) (S 5 3) (S 5 4) (S 5 5) (S 5 6) (S 5 7) (S 5 8) (S 5 9) (S 5 10) (S 5 11), k_Places g a 11 (S 6 0) (S 7) (S 8) (S 9) (S 10) (S 11), k_StO g a 17, k_Sheet g a 18 (r1 0 0) (r1 1) (r1 2) (r1 3) (r1 4), k_Settings g a 23 (r1 5 0) (r1 5 1) (r1 5 2) (r1 5 3) (r1 5 4) (r1 5 5) (r1 5 6) (r1 5 7) (r1 5 8) (r1 5 9) x4 x39, k_Places g a 24 (r54.2.2.2.2.2.2.2.2.2.2.2.2.2.2 6 0) (r54.2.2.2.2.2.2.2.2.2.2.2.2.2.2 7) (r54.2.2.2.2.2.2.2.2.2.2.2.2.2.2 8) (r54.2.2.2.2.2.2.2.2.2.2.2.2.2.2 9) (r54.2.2.2.2.2.2.2.2.2.2.2.2.2.2 10) (r54.2.2.2.2.2.2.2.2.2.2.2.2.2.2 11), k_Catalog g a 30 lefts tops cwidths cheights originals orients, k_PkO g a 44 (a 17) (a 30), k_Space g a 45 r54.2.1 r54.2.2.1 r54.2.2.2.1 r54.2.2.2.2.1 r54.2.2.2.2.2.1, k_Choice g a 49 r54.2.2.2.2.2.2.1 r54.2.2.2.2.2.2.2.1 r54.2.2.2.2.2.2.2.2.1 r54.2.2.2.2.2.2.2.2.2.1 r54.2.2.2.2.2.2.2.2.2.2.1 r54.2.2.2.2.2.2.2.2.2.2.2.1 r54.2.2.2.2.2.2.2.2.2.2.2.2.1, k_Line g a 50 r54.2.2.2.2.2.2.2.2.2.2.2.2.2.1]) rfl (b_e1 rfl (b_e1 rfl (b_e1 rfl (b_e1 rfl (b_e1 rfl b_e0))))) 14 rfl (by decide) (st2 := [.int r54.1, .ref (a 0)]) rfl (fun H locs hw => ?_)
              obtain ⟨r55, er55, h⟩ := g_cl_some h
              refine b_callV hx hb hml hown hT hK hA hw mk_X10_326 (c_X10_packingCost l D g a rnd (updC (updC (updC (updC (updC (updC (updC r1 5 (upd (upd (r1 5) 10 x4) 11 x39)) 6 (upd (r1 6) 0 (r54.2.2.2.2.2.2.2.2.2.2.2.2.2.2 6 0))) 7 (r54.2.2.2.2.2.2.2.2.2.2.2.2.2.2 7)) 8 (r54.2.2.2.2.2.2.2.2.2.2.2.2.2.2 8)) 9 (r54.2.2.2.2.2.2.2.2.2.2.2.2.2.2 9)) 10 (r54.2.2.2.2.2.2.2.2.2.2.2.2.2.2 10)) 11 (r54.2.2.2.2.2.2.2.2.2.2.2.2.2.2 11)) lefts tops cwidths cheights originals orients r54.1 r55 er55) [0, 5, 6, 7, 8, 9, 10] [1, 2, 3, 4, 11, 12, 13] rfl (by decide) 0 0 rfl rfl rfl rfl hl.1 [] rfl (Nat.le_of_ble_eq_true rfl) ⟨Nat.le_of_ble_eq_true rfl, Nat.le_of_ble_eq_true rfl⟩ ⟨Nat.zero_le _, Nat.zero_le _⟩ dX10_bestMethod_67 (wb' := [k_Atlas g a rnd, k_StO g a 4, k_Sheet g a 5 (S 0 0) (S 1) (S 2) (S 3) (S 4), k_Settings g a 10 (S 5 0) (S 5 1) (S 5 2) (S 5 3) (S 5 4) (S 5 5) (S 5 6) (S 5 7) (S 5 8) (S 5 9) (S 5 10) (S 5 11), k_Places g a 11 (S 6 0) (S 7) (S 8) (S 9) (S 10) (S 11), k_StO g a 17, k_Sheet g a 18 (r1 0 0) (r1 1) (r1 2) (r1 3) (r1 4), k_Settings g a 23 (r1 5 0) (r1 5 1) (r1 5 2) (r1 5 3) (r1 5 4) (r1 5 5) (r1 5 6) (r1 5 7) (r1 5 8) (r1 5 9) x4 x39, k_Places g a 24 (r54.2.2.2.2.2.2.2.2.2.2.2.2.2.2 6 0) (r54.2.2.2.2.2.2.2.2.2.2.2.2.2.2 7) (r54.2.2.2.2.2.2.2.2.2.2.2.2.2.2 8) (r54.2.2.2.2.2.2.2.2.2.2.2.2.2.2 9) (r54.2.2.2.2.2.2.2.2.2.2.2.2.2.2 10) (r54.2.2.2.2.2.2.2.2.2.2.2.2.2.2 11), k_Catalog g a 30 lefts tops cwidths cheights originals orients, k_PkO g a 44 (a 17) (a 30), k_Space g a 45 r54.2.1 r54.2.2.1 r54.2.2.2.1 r54.2.2.2.2.1 r54.2.2.2.2.2.1, k_Choice g a 49 r54.2.2.2.2.2.2.1 r54.2.2.2.2.2.2.2.1 r54.2.2.2.2.2.2.2.2.1 r54.2.2.2.2.2.2.2.2.2.1 r54.2.2.2.2.2.2.2.2.2.2.1 r54.2.2.2.2.2.2.2.2.2.2.2.1 r54.2.2.2.2.2.2.2.2.2.2.2.2.1, k_Line g a 50 r54.2.2.2.2.2.2.2.2.2.2.2.2.2.1]) rfl (b_e1 rfl (b_e1 rfl (b_e1 rfl (b_e1 rfl (b_e1 rfl (b_e1 rfl (b_e1 rfl b_e0))))))) 14 rfl (by decide) (st2 := [.long r55]) rfl (fun H locs hw => ?_)
              refine lv_lstore (lv' := [(6, .long r55), (0, .ref (a 0)), (1, .int x37), (2, .long y38), (4, .int x4), (5, .int x39)]) hx hb dX10_bestMethod_70 hl (by decide) rfl (fun ls hl => ?_)
              refine lv_lload hx hb dX10_bestMethod_72 (lv_at hl 0 rfl) ?_
              refine lv_lload_n hx hb dX10_bestMethod_74 rfl (lv_at hl 3 rfl) ?_
              refine W.lcmp hx hb dX10_bestMethod_75 ?_
              obtain ⟨j91_57, ej91_57, h⟩ := g_jn_nm h
              have hj91_57 : ∀ (x56 : Int32) (y57 : Int64) (H : Heap) (locs : List Loc) (ls : Array Slot), b_Wd D A s.heap H locs [k_Atlas g a rnd, k_StO g a 4, k_Sheet g a 5 (S 0 0) (S 1) (S 2) (S 3) (S 4), k_Settings g a 10 (S 5 0) (S 5 1) (S 5 2) (S 5 3) (S 5 4) (S 5 5) (S 5 6) (S 5 7) (S 5 8) (S 5 9) (S 5 10) (S 5 11), k_Places g a 11 (S 6 0) (S 7) (S 8) (S 9) (S 10) (S 11), k_StO g a 17, k_Sheet g a 18 (r1 0 0) (r1 1) (r1 2) (r1 3) (r1 4), k_Settings g a 23 (r1 5 0) (r1 5 1) (r1 5 2) (r1 5 3) (r1 5 4) (r1 5 5) (r1 5 6) (r1 5 7) (r1 5 8) (r1 5 9) x4 x39, k_Places g a 24 (r54.2.2.2.2.2.2.2.2.2.2.2.2.2.2 6 0) (r54.2.2.2.2.2.2.2.2.2.2.2.2.2.2 7) (r54.2.2.2.2.2.2.2.2.2.2.2.2.2.2 8) (r54.2.2.2.2.2.2.2.2.2.2.2.2.2.2 9) (r54.2.2.2.2.2.2.2.2.2.2.2.2.2.2 10) (r54.2.2.2.2.2.2.2.2.2.2.2.2.2.2 11), k_Catalog g a 30 lefts tops cwidths cheights originals orients, k_PkO g a 44 (a 17) (a 30), k_Space g a 45 r54.2.1 r54.2.2.1 r54.2.2.2.1 r54.2.2.2.2.1 r54.2.2.2.2.2.1, k_Choice g a 49 r54.2.2.2.2.2.2.1 r54.2.2.2.2.2.2.2.1 r54.2.2.2.2.2.2.2.2.1 r54.2.2.2.2.2.2.2.2.2.1 r54.2.2.2.2.2.2.2.2.2.2.1 r54.2.2.2.2.2.2.2.2.2.2.2.1 r54.2.2.2.2.2.2.2.2.2.2.2.2.1, k_Line g a 50 r54.2.2.2.2.2.2.2.2.2.2.2.2.2.1] → lv_has ls 8 [(0, .ref (a 0)), (1, .int x56), (2, .long y57), (4, .int x4), (5, .int x39)] → j91_57 x56 y57 = some u → W p l e (g_rm 7 164) s m args below meth c H locs 0 0 Q (F0 m 91 ls []) := by
                intro x56 y57 H locs ls hw hl h
                subst ej91_57
                dsimp only at h
                obtain ⟨x59, ex59, h⟩ := g_bd_nm h
                refine lv_iinc (v := x59) (lv' := [(5, .int x59), (0, .ref (a 0)), (1, .int x56), (2, .long y57), (4, .int x4)]) hx hb dX10_bestMethod_91 hl (k := 4) rfl (by rw [ex59]; rfl) (by decide) rfl (fun ls hl => ?_)
                refine lv_goto (tgt := 29) hx hb dX10_bestMethod_94 (by decide) ?_
                exact ih29 x56 y57 x59 (updC (updC (updC (updC (updC (updC (updC r1 5 (upd (upd (r1 5) 10 x4) 11 x39)) 6 (upd (r1 6) 0 (r54.2.2.2.2.2.2.2.2.2.2.2.2.2.2 6 0))) 7 (r54.2.2.2.2.2.2.2.2.2.2.2.2.2.2 7)) 8 (r54.2.2.2.2.2.2.2.2.2.2.2.2.2.2 8)) 9 (r54.2.2.2.2.2.2.2.2.2.2.2.2.2.2 9)) 10 (r54.2.2.2.2.2.2.2.2.2.2.2.2.2.2 10)) 11 (r54.2.2.2.2.2.2.2.2.2.2.2.2.2.2 11)) r54.2.1 r54.2.2.1 r54.2.2.2.1 r54.2.2.2.2.1 r54.2.2.2.2.2.1 r54.2.2.2.2.2.2.1 r54.2.2.2.2.2.2.2.1 r54.2.2.2.2.2.2.2.2.1 r54.2.2.2.2.2.2.2.2.2.1 r54.2.2.2.2.2.2.2.2.2.2.1 r54.2.2.2.2.2.2.2.2.2.2.2.1 r54.2.2.2.2.2.2.2.2.2.2.2.2.1 r54.2.2.2.2.2.2.2.2.2.2.2.2.2.1 _ _ _ hw (lv_sub hl [1, 2, 3, 4, 0] rfl) h
              refine lv_if_ge (tgt := 91) hx hb dX10_bestMethod_76 (by decide) (fun hc76 => ?_) (fun hc76 => ?_)
              · rw [if_pos hc76] at h
                exact hj91_57 x37 y38 _ _ _ hw (lv_sub hl [1, 2, 3, 4, 5] rfl) h
              · rw [if_neg hc76] at h
                refine lv_lload hx hb dX10_bestMethod_79 (lv_at hl 0 rfl) ?_
                refine lv_lstore_n (lv' := [(2, .long r55), (6, .long r55), (0, .ref (a 0)), (1, .int x37), (4, .int x4), (5, .int x39)]) hx hb dX10_bestMethod_81 rfl hl (by decide) rfl (fun ls hl => ?_)
                refine lv_bipush (v := 10) hx hb dX10_bestMethod_82 (by decide) ?_
                refine lv_iload hx hb dX10_bestMethod_84 (lv_at hl 4 rfl) ?_
                refine lv_imul hx hb dX10_bestMethod_86 ?_
                refine lv_iload hx hb dX10_bestMethod_87 (lv_at hl 5 rfl) ?_
                refine lv_iadd hx hb dX10_bestMethod_89 ?_
                obtain ⟨x60, ex60, h⟩ := g_bd_nm h
                refine g_topi ex60 ?_
                refine lv_istore_n (lv' := [(1, .int x60), (2, .long r55), (6, .long r55), (0, .ref (a 0)), (4, .int x4), (5, .int x39)]) hx hb dX10_bestMethod_90 rfl hl (by decide) rfl (fun ls hl => ?_)
                exact hj91_57 x60 r55 _ _ _ hw (lv_sub hl [3, 0, 1, 4, 5] rfl) h
        exact hL29 g_fuel x2 y3 (0 : Int32) (updC (updC (updC (updC (updC (updC (updC r1 5 (upd (upd (r1 5) 10 (S5 5 10)) 11 (S5 5 11))) 6 (upd (r1 6) 0 (S5 6 0))) 7 (S5 7)) 8 (S5 8)) 9 (S5 9)) 10 (S5 10)) 11 (S5 11)) x6 x7 f8 f9 f10 x11 x12 x13 x14 x15 x16 x17 f18 _ _ _ hw (lv_sub hl [1, 2, 3, 4, 0] rfl) h
  exact hL20 g_fuel (0 : Int32) (1000000000 : Int64) (0 : Int32) r1 spWT spHT frT codesT countsT chFoundT chPageT chColT chRowT chTurnedT chFirstT chSecondT lineT _ _ _ hw (lv_sub hl [3, 2, 1, 0] rfl) h
set_option maxRecDepth 100000 in
set_option maxHeartbeats 4000000 in
theorem c_X10_smallestPage (l : Launch) (D : va_G) (g : Nat → ClassId) (a : Nat → Nat) (rnd : Int64) (S : Nat → Nat → Int32) (ST : Nat → Nat → Int32) (lefts : (Nat → Int32)) (tops : (Nat → Int32)) (cwidths : (Nat → Int32)) (cheights : (Nat → Int32)) (originals : (Nat → Int32)) (orients : (Nat → Int32)) (spWT : Int32) (spHT : Int32) (frT : (Nat → Int64)) (codesT : (Nat → Int32)) (countsT : (Nat → Int32)) (chFoundT : Int32) (chPageT : Int32) (chColT : Int32) (chRowT : Int32) (chTurnedT : Int32) (chFirstT : Int32) (chSecondT : Int32) (lineT : (Nat → Int32)) (u : Int32 × (Nat → Nat → Int32) × Int32 × Int32 × (Nat → Int64) × (Nat → Int32) × (Nat → Int32) × Int32 × Int32 × Int32 × Int32 × Int32 × Int32 × Int32 × (Nat → Int32)) (h : f_X10_smallestPage S ST cwidths cheights originals spWT spHT frT codesT countsT chFoundT chPageT chColT chRowT chTurnedT chFirstT chSecondT lineT = some u) : b_Ct l yX10_smallestPage cX10_smallestPage 2 (some .int) 7 164 D g [.ref (a 0)] [k_Atlas g a rnd, k_StO g a 4, k_Sheet g a 5 (S 0 0) (S 1) (S 2) (S 3) (S 4), k_Settings g a 10 (S 5 0) (S 5 1) (S 5 2) (S 5 3) (S 5 4) (S 5 5) (S 5 6) (S 5 7) (S 5 8) (S 5 9) (S 5 10) (S 5 11), k_Places g a 11 (S 6 0) (S 7) (S 8) (S 9) (S 10) (S 11), k_StO g a 17, k_Sheet g a 18 (ST 0 0) (ST 1) (ST 2) (ST 3) (ST 4), k_Settings g a 23 (ST 5 0) (ST 5 1) (ST 5 2) (ST 5 3) (ST 5 4) (ST 5 5) (ST 5 6) (ST 5 7) (ST 5 8) (ST 5 9) (ST 5 10) (ST 5 11), k_Places g a 24 (ST 6 0) (ST 7) (ST 8) (ST 9) (ST 10) (ST 11), k_Catalog g a 30 lefts tops cwidths cheights originals orients, k_PkO g a 44 (a 17) (a 30), k_Space g a 45 spWT spHT frT codesT countsT, k_Choice g a 49 chFoundT chPageT chColT chRowT chTurnedT chFirstT chSecondT, k_Line g a 50 lineT] [k_Atlas g a rnd, k_StO g a 4, k_Sheet g a 5 (S 0 0) (S 1) (S 2) (S 3) (S 4), k_Settings g a 10 (S 5 0) (S 5 1) (S 5 2) (S 5 3) (S 5 4) (S 5 5) (S 5 6) (S 5 7) (S 5 8) (S 5 9) (S 5 10) (S 5 11), k_Places g a 11 (S 6 0) (S 7) (S 8) (S 9) (S 10) (S 11), k_StO g a 17, k_Sheet g a 18 (u.2.1 0 0) (u.2.1 1) (u.2.1 2) (u.2.1 3) (u.2.1 4), k_Settings g a 23 (u.2.1 5 0) (u.2.1 5 1) (u.2.1 5 2) (u.2.1 5 3) (u.2.1 5 4) (u.2.1 5 5) (u.2.1 5 6) (u.2.1 5 7) (u.2.1 5 8) (u.2.1 5 9) (u.2.1 5 10) (u.2.1 5 11), k_Places g a 24 (u.2.1 6 0) (u.2.1 7) (u.2.1 8) (u.2.1 9) (u.2.1 10) (u.2.1 11), k_Catalog g a 30 lefts tops cwidths cheights originals orients, k_PkO g a 44 (a 17) (a 30), k_Space g a 45 u.2.2.1 u.2.2.2.1 u.2.2.2.2.1 u.2.2.2.2.2.1 u.2.2.2.2.2.2.1, k_Choice g a 49 u.2.2.2.2.2.2.2.1 u.2.2.2.2.2.2.2.2.1 u.2.2.2.2.2.2.2.2.2.1 u.2.2.2.2.2.2.2.2.2.2.1 u.2.2.2.2.2.2.2.2.2.2.2.1 u.2.2.2.2.2.2.2.2.2.2.2.2.1 u.2.2.2.2.2.2.2.2.2.2.2.2.2.1, k_Line g a 50 u.2.2.2.2.2.2.2.2.2.2.2.2.2.2] (some (.int u.1)) := by
  refine b_start RX10 (by decide) rfl (Nat.le_of_ble_eq_true rfl) rfl ?_
  intro p e s m args below meth c A ls Q hQ hx hb hr hlk hml hown hT hK hA hw hl
  have hl : lv_has ls 2 [(0, .ref (a 0))] := hl
  unfold f_X10_smallestPage at h
  refine lv_aload_n hx hb dX10_smallestPage_0 rfl (lv_at hl 0 rfl) ?_
  refine b_get hx hb hT hK hown fl_X10_50 hw 0 0 rfl rfl (v := .ref (a 17)) rfl dX10_smallestPage_1 ?_
  refine lv_aload_n hx hb dX10_smallestPage_4 rfl (lv_at hl 0 rfl) ?_
  refine b_get hx hb hT hK hown fl_X10_47 hw 0 0 rfl rfl (v := .ref (a 4)) rfl dX10_smallestPage_5 ?_
  obtain ⟨r1, er1, h⟩ := g_cl_some h
  refine b_callV hx hb hml hown hT hK hA hw mk_X10_321 (c_X8_copyFrom l D g a 17 a 4 ST S r1 er1) [5, 6, 7, 8, 1, 2, 3, 4] [0, 9, 10, 11, 12, 13] rfl (by decide) 5 0 rfl rfl rfl rfl hl.1 [] rfl (Nat.le_of_ble_eq_true rfl) ⟨Nat.le_of_ble_eq_true rfl, Nat.le_of_ble_eq_true rfl⟩ ⟨Nat.zero_le _, Nat.zero_le _⟩ dX10_smallestPage_8 (wb' := [k_Atlas g a rnd, k_StO g a 4, k_Sheet g a 5 (S 0 0) (S 1) (S 2) (S 3) (S 4), k_Settings g a 10 (S 5 0) (S 5 1) (S 5 2) (S 5 3) (S 5 4) (S 5 5) (S 5 6) (S 5 7) (S 5 8) (S 5 9) (S 5 10) (S 5 11), k_Places g a 11 (S 6 0) (S 7) (S 8) (S 9) (S 10) (S 11), k_StO g a 17, k_Sheet g a 18 (r1 0 0) (r1 1) (r1 2) (r1 3) (r1 4), k_Settings g a 23 (r1 5 0) (r1 5 1) (r1 5 2) (r1 5 3) (r1 5 4) (r1 5 5) (r1 5 6) (r1 5 7) (r1 5 8) (r1 5 9) (r1 5 10) (r1 5 11), k_Places g a 24 (r1 6 0) (r1 7) (r1 8) (r1 9) (r1 10) (r1 11), k_Catalog g a 30 lefts tops cwidths cheights originals orients, k_PkO g a 44 (a 17) (a 30), k_Space g a 45 spWT spHT frT codesT countsT, k_Choice g a 49 chFoundT chPageT chColT chRowT chTurnedT chFirstT chSecondT, k_Line g a 50 lineT]) rfl (b_e1 rfl (b_e1 rfl (b_e1 rfl (b_e1 rfl (b_e1 rfl (b_e1 rfl b_e0)))))) 14 rfl (by decide) (st2 := []) rfl (fun H locs hw => ?_)
  refine lv_aload_n hx hb dX10_smallestPage_11 rfl (lv_at hl 0 rfl) ?_
  refine b_get hx hb hT hK hown fl_X10_50 hw 0 0 rfl rfl (v := .ref (a 17)) rfl dX10_smallestPage_12 ?_
  refine b_get hx hb hT hK hown fl_X10_105 hw 5 0 rfl rfl (v := .ref (a 23)) rfl dX10_smallestPage_15 ?_
  refine lv_iconst (v := 1) hx hb dX10_smallestPage_18 (by decide) ?_
  refine b_putf hx hb hT hK hown fl_X10_173 ft_X5 hw 7 0 rfl rfl rfl rfl rfl (Nat.le_of_ble_eq_true rfl) rfl (wb' := [k_Atlas g a rnd, k_StO g a 4, k_Sheet g a 5 (S 0 0) (S 1) (S 2) (S 3) (S 4), k_Settings g a 10 (S 5 0) (S 5 1) (S 5 2) (S 5 3) (S 5 4) (S 5 5) (S 5 6) (S 5 7) (S 5 8) (S 5 9) (S 5 10) (S 5 11), k_Places g a 11 (S 6 0) (S 7) (S 8) (S 9) (S 10) (S 11), k_StO g a 17, k_Sheet g a 18 (r1 0 0) (r1 1) (r1 2) (r1 3) (r1 4), k_Settings g a 23 (r1 5 0) (r1 5 1) (1 : Int32) (r1 5 3) (r1 5 4) (r1 5 5) (r1 5 6) (r1 5 7) (r1 5 8) (r1 5 9) (r1 5 10) (r1 5 11), k_Places g a 24 (r1 6 0) (r1 7) (r1 8) (r1 9) (r1 10) (r1 11), k_Catalog g a 30 lefts tops cwidths cheights originals orients, k_PkO g a 44 (a 17) (a 30), k_Space g a 45 spWT spHT frT codesT countsT, k_Choice g a 49 chFoundT chPageT chColT chRowT chTurnedT chFirstT chSecondT, k_Line g a 50 lineT]) rfl dX10_smallestPage_19 (fun H locs hw => ?_)
  refine lv_aload_n hx hb dX10_smallestPage_22 rfl (lv_at hl 0 rfl) ?_
  refine b_get hx hb hT hK hown fl_X10_50 hw 0 0 rfl rfl (v := .ref (a 17)) rfl dX10_smallestPage_23 ?_
  refine b_get hx hb hT hK hown fl_X10_105 hw 5 0 rfl rfl (v := .ref (a 23)) rfl dX10_smallestPage_26 ?_
  refine lv_iconst (v := 0) hx hb dX10_smallestPage_29 (by decide) ?_
  refine b_putf hx hb hT hK hown fl_X10_199 ft_X5 hw 7 0 rfl rfl rfl rfl rfl (Nat.le_of_ble_eq_true rfl) rfl (wb' := [k_Atlas g a rnd, k_StO g a 4, k_Sheet g a 5 (S 0 0) (S 1) (S 2) (S 3) (S 4), k_Settings g a 10 (S 5 0) (S 5 1) (S 5 2) (S 5 3) (S 5 4) (S 5 5) (S 5 6) (S 5 7) (S 5 8) (S 5 9) (S 5 10) (S 5 11), k_Places g a 11 (S 6 0) (S 7) (S 8) (S 9) (S 10) (S 11), k_StO g a 17, k_Sheet g a 18 (r1 0 0) (r1 1) (r1 2) (r1 3) (r1 4), k_Settings g a 23 (r1 5 0) (r1 5 1) (1 : Int32) (r1 5 3) (r1 5 4) (r1 5 5) (r1 5 6) (r1 5 7) (r1 5 8) (0 : Int32) (r1 5 10) (r1 5 11), k_Places g a 24 (r1 6 0) (r1 7) (r1 8) (r1 9) (r1 10) (r1 11), k_Catalog g a 30 lefts tops cwidths cheights originals orients, k_PkO g a 44 (a 17) (a 30), k_Space g a 45 spWT spHT frT codesT countsT, k_Choice g a 49 chFoundT chPageT chColT chRowT chTurnedT chFirstT chSecondT, k_Line g a 50 lineT]) rfl dX10_smallestPage_30 (fun H locs hw => ?_)
  refine lv_iconst (v := 4) hx hb dX10_smallestPage_33 (by decide) ?_
  refine lv_istore_n (lv' := [(1, .int (4 : Int32)), (0, .ref (a 0))]) hx hb dX10_smallestPage_34 rfl hl (by decide) rfl (fun ls hl => ?_)
  have hL35 : ∀ (n : Nat) (x2 : Int32) (S3 : Nat → Nat → Int32) (x4 : Int32) (x5 : Int32) (f6 : Nat → Int64) (f7 : Nat → Int32) (f8 : Nat → Int32) (x9 : Int32) (x10 : Int32) (x11 : Int32) (x12 : Int32) (x13 : Int32) (x14 : Int32) (x15 : Int32) (f16 : Nat → Int32) (H : Heap) (locs : List Loc) (ls : Array Slot), b_Wd D A s.heap H locs [k_Atlas g a rnd, k_StO g a 4, k_Sheet g a 5 (S 0 0) (S 1) (S 2) (S 3) (S 4), k_Settings g a 10 (S 5 0) (S 5 1) (S 5 2) (S 5 3) (S 5 4) (S 5 5) (S 5 6) (S 5 7) (S 5 8) (S 5 9) (S 5 10) (S 5 11), k_Places g a 11 (S 6 0) (S 7) (S 8) (S 9) (S 10) (S 11), k_StO g a 17, k_Sheet g a 18 (r1 0 0) (r1 1) (r1 2) (r1 3) (r1 4), k_Settings g a 23 (S3 5 0) (S3 5 1) (1 : Int32) (r1 5 3) (r1 5 4) (r1 5 5) (r1 5 6) (r1 5 7) (r1 5 8) (0 : Int32) (r1 5 10) (r1 5 11), k_Places g a 24 (S3 6 0) (S3 7) (S3 8) (S3 9) (S3 10) (S3 11), k_Catalog g a 30 lefts tops cwidths cheights originals orients, k_PkO g a 44 (a 17) (a 30), k_Space g a 45 x4 x5 f6 f7 f8, k_Choice g a 49 x9 x10 x11 x12 x13 x14 x15, k_Line g a 50 f16] → lv_has ls 2 [(0, .ref (a 0)), (1, .int x2)] → f_X10_smallestPage_L35 cwidths cheights originals r1 n x2 S3 x4 x5 f6 f7 f8 x9 x10 x11 x12 x13 x14 x15 f16 = some u → W p l e (g_rm 7 164) s m args below meth c H locs 0 0 Q (F0 m 35 ls []) := by
    intro n
    induction n with
    | zero =>
      intro x2 S3 x4 x5 f6 f7 f8 x9 x10 x11 x12 x13 x14 x15 f16 H locs ls hw hl h
      cases (show none = some u from h)
    | succ n ih35 =>
      intro x2 S3 x4 x5 f6 f7 f8 x9 x10 x11 x12 x13 x14 x15 f16 H locs ls hw hl h
      rw [f_X10_smallestPage_L35] at h
      refine lv_iload_n hx hb dX10_smallestPage_35 rfl (lv_at hl 1 rfl) ?_
      refine lv_bipush (v := 32) hx hb dX10_smallestPage_36 (by decide) ?_
      refine lv_icmp_gt (tgt := 81) hx hb dX10_smallestPage_38 (by decide) (fun hc38 => ?_) (fun hc38 => ?_)
      · rw [if_pos hc38] at h
        refine lv_bipush (v := -4) hx hb dX10_smallestPage_81 (by decide) ?_
        obtain rfl := Option.some.inj h
        exact b_iret hQ hx hb hr hlk hw rfl dX10_smallestPage_83
      · rw [if_neg hc38] at h
        refine lv_aload_n hx hb dX10_smallestPage_41 rfl (lv_at hl 0 rfl) ?_
        refine b_get hx hb hT hK hown fl_X10_50 hw 0 0 rfl rfl (v := .ref (a 17)) rfl dX10_smallestPage_42 ?_
        refine b_get hx hb hT hK hown fl_X10_105 hw 5 0 rfl rfl (v := .ref (a 23)) rfl dX10_smallestPage_45 ?_
        refine lv_iload_n hx hb dX10_smallestPage_48 rfl (lv_at hl 1 rfl) ?_
        refine b_putf hx hb hT hK hown fl_X10_165 ft_X5 hw 7 0 rfl rfl rfl rfl rfl (Nat.le_of_ble_eq_true rfl) rfl (wb' := [k_Atlas g a rnd, k_StO g a 4, k_Sheet g a 5 (S 0 0) (S 1) (S 2) (S 3) (S 4), k_Settings g a 10 (S 5 0) (S 5 1) (S 5 2) (S 5 3) (S 5 4) (S 5 5) (S 5 6) (S 5 7) (S 5 8) (S 5 9) (S 5 10) (S 5 11), k_Places g a 11 (S 6 0) (S 7) (S 8) (S 9) (S 10) (S 11), k_StO g a 17, k_Sheet g a 18 (r1 0 0) (r1 1) (r1 2) (r1 3) (r1 4), k_Settings g a 23 x2 (S3 5 1) (1 : Int32) (r1 5 3) (r1 5 4) (r1 5 5) (r1 5 6) (r1 5 7) (r1 5 8) (0 : Int32) (r1 5 10) (r1 5 11), k_Places g a 24 (S3 6 0) (S3 7) (S3 8) (S3 9) (S3 10) (S3 11), k_Catalog g a 30 lefts tops cwidths cheights originals orients, k_PkO g a 44 (a 17) (a 30), k_Space g a 45 x4 x5 f6 f7 f8, k_Choice g a 49 x9 x10 x11 x12 x13 x14 x15, k_Line g a 50 f16]) rfl dX10_smallestPage_49 (fun H locs hw => ?_)
        refine lv_aload_n hx hb dX10_smallestPage_52 rfl (lv_at hl 0 rfl) ?_
        refine b_get hx hb hT hK hown fl_X10_50 hw 0 0 rfl rfl (v := .ref (a 17)) rfl dX10_smallestPage_53 ?_
        refine b_get hx hb hT hK hown fl_X10_105 hw 5 0 rfl rfl (v := .ref (a 23)) rfl dX10_smallestPage_56 ?_
        refine lv_iload_n hx hb dX10_smallestPage_59 rfl (lv_at hl 1 rfl) ?_
        refine b_putf hx hb hT hK hown fl_X10_170 ft_X5 hw 7 0 rfl rfl rfl rfl rfl (Nat.le_of_ble_eq_true rfl) rfl (wb' := [k_Atlas g a rnd, k_StO g a 4, k_Sheet g a 5 (S 0 0) (S 1) (S 2) (S 3) (S 4), k_Settings g a 10 (S 5 0) (S 5 1) (S 5 2) (S 5 3) (S 5 4) (S 5 5) (S 5 6) (S 5 7) (S 5 8) (S 5 9) (S 5 10) (S 5 11), k_Places g a 11 (S 6 0) (S 7) (S 8) (S 9) (S 10) (S 11), k_StO g a 17, k_Sheet g a 18 (r1 0 0) (r1 1) (r1 2) (r1 3) (r1 4), k_Settings g a 23 x2 x2 (1 : Int32) (r1 5 3) (r1 5 4) (r1 5 5) (r1 5 6) (r1 5 7) (r1 5 8) (0 : Int32) (r1 5 10) (r1 5 11), k_Places g a 24 (S3 6 0) (S3 7) (S3 8) (S3 9) (S3 10) (S3 11), k_Catalog g a 30 lefts tops cwidths cheights originals orients, k_PkO g a 44 (a 17) (a 30), k_Space g a 45 x4 x5 f6 f7 f8, k_Choice g a 49 x9 x10 x11 x12 x13 x14 x15, k_Line g a 50 f16]) rfl dX10_smallestPage_60 (fun H locs hw => ?_)
        refine lv_aload_n hx hb dX10_smallestPage_63 rfl (lv_at hl 0 rfl) ?_
        refine b_get hx hb hT hK hown fl_X10_66 hw 0 0 rfl rfl (v := .ref (a 44)) rfl dX10_smallestPage_64 ?_
        obtain ⟨r17, er17, h⟩ := g_cl_some h
        refine b_callV hx hb hml hown hT hK hA hw mk_X10_208 (c_X3_placeAll l D g a 44 a 17 a 30 x4 x5 f6 f7 f8 x9 x10 x11 x12 x13 x14 x15 f16 (updC (updC (updC (updC (updC (updC (updC r1 5 (upd (upd (upd (upd (r1 5) 0 x2) 1 x2) 2 (1 : Int32)) 9 (0 : Int32))) 6 (upd (r1 6) 0 (S3 6 0))) 7 (S3 7)) 8 (S3 8)) 9 (S3 9)) 10 (S3 10)) 11 (S3 11)) lefts tops cwidths cheights originals orients r17 er17) [10, 11, 12, 13, 5, 6, 7, 8, 9] [0, 1, 2, 3, 4] rfl (by decide) 10 0 rfl rfl rfl rfl hl.1 [] rfl (Nat.le_of_ble_eq_true rfl) ⟨Nat.le_of_ble_eq_true rfl, Nat.le_of_ble_eq_true rfl⟩ ⟨Nat.zero_le _, Nat.zero_le _⟩ dX10_smallestPage_67 (wb' := [k_Atlas g a rnd, k_StO g a 4, k_Sheet g a 5 (S 0 0) (S 1) (S 2) (S 3) (S 4), k_Settings g a 10 (S 5 0) (S 5 1) (S 5 2) (S 5 3) (S 5 4) (S 5 5) (S 5 6) (S 5 7) (S 5 8) (S 5 9) (S 5 10) (S 5 11), k_Places g a 11 (S 6 0) (S 7) (S 8) (S 9) (S 10) (S 11), k_StO g a 17, k_Sheet g a 18 (r1 0 0) (r1 1) (r1 2) (r1 3) (r1 4), k_Settings g a 23 x2 x2 (1 : Int32) (r1 5 3) (r1 5 4) (r1 5 5) (r1 5 6) (r1 5 7) (r1 5 8) (0 : Int32) (r1 5 10) (r1 5 11), k_Places g a 24 (r17.2.2.2.2.2.2.2.2.2.2.2.2.2.2 6 0) (r17.2.2.2.2.2.2.2.2.2.2.2.2.2.2 7) (r17.2.2.2.2.2.2.2.2.2.2.2.2.2.2 8) (r17.2.2.2.2.2.2.2.2.2.2.2.2.2.2 9) (r17.2.2.2.2.2.2.2.2.2.2.2.2.2.2 10) (r17.2.2.2.2.2.2.2.2.2.2.2.2.2.2 11), k_Catalog g a 30 lefts tops cwidths cheights originals orients, k_PkO g a 44 (a 17) (a 30), k_Space g a 45 r17.2.1 r17.2.2.1 r17.2.2.2.1 r17.2.2.2.2.1 r17.2.2.2.2.2.1, k_Choice g a 49 r17.2.2.2.2.2.2.1 r17.2.2.2.2.2.2.2.1 r17.2.2.2.2.2.2.2.2.1 r17.2.2.2.2.2.2.2.2.2.1 r17.2.2.2.2.2.2.2.2.2.2.1 r17.2.2.2.2.2.2.2.2.2.2.2.1 r17.2.2.2.2.2.2.2.2.2.2.2.2.1, k_Line g a 50 r17.2.2.2.2.2.2.2.2.2.2.2.2.2.1]) rfl (b_e1 rfl (b_e1 rfl (b_e1 rfl (b_e1 rfl (b_e1 rfl b_e0))))) 14 rfl (by decide) (st2 := [.int r17.1]) rfl (fun H locs hw => ?_)
        refine lv_if_ne (tgt := 75) hx hb dX10_smallestPage_70 (by decide) (fun hc70 => ?_) (fun hc70 => ?_)
        · rw [if_neg hc70] at h
          obtain ⟨x18, ex18, h⟩ := g_bd_nm h
          refine lv_iinc (v := x18) (lv' := [(1, .int x18), (0, .ref (a 0))]) hx hb dX10_smallestPage_75 hl (k := 1) rfl (by rw [ex18]; rfl) (by decide) rfl (fun ls hl => ?_)
          refine lv_goto (tgt := 35) hx hb dX10_smallestPage_78 (by decide) ?_
          exact ih35 x18 (updC (updC (updC (updC (updC (updC (updC r1 5 (upd (upd (upd (upd (r1 5) 0 x2) 1 x2) 2 (1 : Int32)) 9 (0 : Int32))) 6 (upd (r1 6) 0 (r17.2.2.2.2.2.2.2.2.2.2.2.2.2.2 6 0))) 7 (r17.2.2.2.2.2.2.2.2.2.2.2.2.2.2 7)) 8 (r17.2.2.2.2.2.2.2.2.2.2.2.2.2.2 8)) 9 (r17.2.2.2.2.2.2.2.2.2.2.2.2.2.2 9)) 10 (r17.2.2.2.2.2.2.2.2.2.2.2.2.2.2 10)) 11 (r17.2.2.2.2.2.2.2.2.2.2.2.2.2.2 11)) r17.2.1 r17.2.2.1 r17.2.2.2.1 r17.2.2.2.2.1 r17.2.2.2.2.2.1 r17.2.2.2.2.2.2.1 r17.2.2.2.2.2.2.2.1 r17.2.2.2.2.2.2.2.2.1 r17.2.2.2.2.2.2.2.2.2.1 r17.2.2.2.2.2.2.2.2.2.2.1 r17.2.2.2.2.2.2.2.2.2.2.2.1 r17.2.2.2.2.2.2.2.2.2.2.2.2.1 r17.2.2.2.2.2.2.2.2.2.2.2.2.2.1 _ _ _ hw (lv_sub hl [1, 0] rfl) h
        · rw [if_pos hc70] at h
          refine lv_iload_n hx hb dX10_smallestPage_73 rfl (lv_at hl 1 rfl) ?_
          obtain rfl := Option.some.inj h
          exact b_iret hQ hx hb hr hlk hw rfl dX10_smallestPage_74
  exact hL35 g_fuel (4 : Int32) (updC r1 5 (upd (upd (r1 5) 2 (1 : Int32)) 9 (0 : Int32))) spWT spHT frT codesT countsT chFoundT chPageT chColT chRowT chTurnedT chFirstT chSecondT lineT _ _ _ hw (lv_sub hl [1, 0] rfl) h
