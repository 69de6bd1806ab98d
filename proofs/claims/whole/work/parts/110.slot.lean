set_option maxRecDepth 100000 in
theorem c_X10_slotState_0 (l : Launch) (D : va_G) (g : Nat → ClassId) (a : Nat → Nat) (rnd : Int64) (i1 : Int32) (hc : i1 = 0) : b_Ct l yX10_slotState cX10_slotState 2 (some (.object "SpriteAtlas$State")) 0 0 D g [.ref (a 0), .int i1] [k_Atlas g a rnd] [k_Atlas g a rnd] (some (.ref (a 118))) := by
  refine b_start RX10 (by decide) rfl (Nat.le_of_ble_eq_true rfl) rfl ?_
  intro p e s m args below meth c A ls Q hQ hx hb hr hlk hml hown hT hK hA hw hl
  have hl : lv_has ls 2 [(0, .ref (a 0)), (1, .int i1)] := hl
  refine lv_iload_n hx hb dX10_slotState_0 rfl (lv_at hl 1 rfl) ?_
  refine lv_if_ne (tgt := 11) hx hb dX10_slotState_1 (by decide) (fun h1 => absurd hc h1) (fun _ => ?_)
  refine lv_aload_n hx hb dX10_slotState_4 rfl (lv_at hl 0 rfl) ?_
  refine b_get hx hb hT hK hown fl_X10_33 hw 0 0 rfl rfl (v := .ref (a 118)) rfl dX10_slotState_5 ?_
  refine lv_goto (tgt := 15) hx hb dX10_slotState_8 (by decide) ?_
  exact b_aret hQ hx hb hr hlk hw rfl dX10_slotState_15
set_option maxRecDepth 100000 in
theorem c_X10_slotState_1 (l : Launch) (D : va_G) (g : Nat → ClassId) (a : Nat → Nat) (rnd : Int64) (i1 : Int32) (hc : ¬ i1 = 0) : b_Ct l yX10_slotState cX10_slotState 2 (some (.object "SpriteAtlas$State")) 0 0 D g [.ref (a 0), .int i1] [k_Atlas g a rnd] [k_Atlas g a rnd] (some (.ref (a 131))) := by
  refine b_start RX10 (by decide) rfl (Nat.le_of_ble_eq_true rfl) rfl ?_
  intro p e s m args below meth c A ls Q hQ hx hb hr hlk hml hown hT hK hA hw hl
  have hl : lv_has ls 2 [(0, .ref (a 0)), (1, .int i1)] := hl
  refine lv_iload_n hx hb dX10_slotState_0 rfl (lv_at hl 1 rfl) ?_
  refine lv_if_ne (tgt := 11) hx hb dX10_slotState_1 (by decide) (fun _ => ?_) (fun h1 => absurd h1 hc)
  refine lv_aload_n hx hb dX10_slotState_11 rfl (lv_at hl 0 rfl) ?_
  refine b_get hx hb hT hK hown fl_X10_37 hw 0 0 rfl rfl (v := .ref (a 131)) rfl dX10_slotState_12 ?_
  exact b_aret hQ hx hb hr hlk hw rfl dX10_slotState_15
