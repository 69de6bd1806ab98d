section Rows3
variable {p : Program} {l : Launch} {e : Env} {R : Room} {s : State} {m : MethodId} {args : Array Value} {below : List Frame} {meth : Method} {c : Code} {H : Heap} {locs : List Loc} {cells slots : Nat} {Q : State → Prop}
variable {cc : ByteArray} {pc : Nat} {ls : Array Slot} {rest : List Value} {D : va_G} {g : Nat → ClassId} {A : Nat → Prop} {ws ws' : va_W} {a : Nat}
theorem g_aald (hx : p.tables.exec = Jvm.exec) (hb : c.code = cc) (hK : va_K D g_cl (g_tys g) s) (hw : g_Wd D A s.heap H locs ws) (q0 : Nat) {n : Nat} {f : Nat → Option Nat} (ha : ws[q0]? = some (a, .inl (g 3, n, .inr (.inr (.inr (.inr f)))))) {i : Int32} {x : Nat} (hi : vp_in i n) (hv : f i.toNatClampNeg = some x) (hdg : decode cc pc = .ok (.aaload, 1))
    (kk : W p l e R s m args below meth c H locs cells slots Q (F0 m (pc + 1) ls (.ref x :: rest))) : W p l e R s m args below meth c H locs cells slots Q (F0 m pc ls (.int i :: .ref a :: rest)) :=
  va_aldq (C := "SpriteAtlas$State") hx hb hK hw.1 q0 3 ha rfl hi hdg (by rw [hv]; exact kk)
theorem g_aret {rv : Option Value} {x : Nat} {n : String} (hQ : Q = g_M D A ws' rv below args s) (hx : p.tables.exec = Jvm.exec) (hb : c.code = cc) (hr : meth.sig.returnType = some (.object n)) (hlocks : meth.locks = false) (hw : g_Wd D A s.heap H locs ws') (hrv : rv = some (.ref x)) (hdg : decode cc pc = .ok (.areturn, 1)) : W p l e R s m args below meth c H locs 0 0 Q (F0 m pc ls [.ref x]) := by
  subst hrv; subst hQ
  exact W.aret hx hb hr (Or.inl ⟨_, rfl⟩) (Or.inr ⟨_, rfl⟩) (fun t ht _ => ⟨⟨rfl, by rw [ht]; exact hw.1⟩, hw.2.2.F ht⟩) hw.2.2.2.2 hdg hlocks
end Rows3
set_option maxRecDepth 100000 in
theorem c_X10_slotState_0 (l : Launch) (D : va_G) (g : Nat → ClassId) (a : Nat → Nat) (rnd : Int64) (i1 : Int32) (hc : i1 = 0) : g_Ct l yX10_slotState cX10_slotState 2 (some (.object "SpriteAtlas$State")) 0 0 D g [.ref (a 0), .int i1] (k_Atlas g a rnd) (k_Atlas g a rnd) (some (.ref (a 118))) := by
  refine g_start RX10 (by decide) rfl (Nat.le_of_ble_eq_true rfl) rfl ?_
  intro p e s m args below meth c A ls Q hQ hx hb hr hlk hml hown hT hK hA hw hl
  have hl : lv_has ls 2 [(0, .ref (a 0)), (1, .int i1)] := hl
  refine lv_iload_n hx hb dX10_slotState_0 rfl (lv_at hl 1 rfl) ?_
  refine lv_if_ne (tgt := 11) hx hb dX10_slotState_1 (by decide) (fun h1 => absurd hc h1) (fun _ => ?_)
  refine lv_aload_n hx hb dX10_slotState_4 rfl (lv_at hl 0 rfl) ?_
  refine g_get hx hb hT hK hown fl_X10_33 hw 0 rfl (v := .ref (a 118)) rfl dX10_slotState_5 ?_
  refine lv_goto (tgt := 15) hx hb dX10_slotState_8 (by decide) ?_
  exact g_aret hQ hx hb hr hlk hw rfl dX10_slotState_15
set_option maxRecDepth 100000 in
theorem c_X10_slotState_1 (l : Launch) (D : va_G) (g : Nat → ClassId) (a : Nat → Nat) (rnd : Int64) (i1 : Int32) (hc : ¬ i1 = 0) : g_Ct l yX10_slotState cX10_slotState 2 (some (.object "SpriteAtlas$State")) 0 0 D g [.ref (a 0), .int i1] (k_Atlas g a rnd) (k_Atlas g a rnd) (some (.ref (a 131))) := by
  refine g_start RX10 (by decide) rfl (Nat.le_of_ble_eq_true rfl) rfl ?_
  intro p e s m args below meth c A ls Q hQ hx hb hr hlk hml hown hT hK hA hw hl
  have hl : lv_has ls 2 [(0, .ref (a 0)), (1, .int i1)] := hl
  refine lv_iload_n hx hb dX10_slotState_0 rfl (lv_at hl 1 rfl) ?_
  refine lv_if_ne (tgt := 11) hx hb dX10_slotState_1 (by decide) (fun _ => ?_) (fun h1 => absurd h1 hc)
  refine lv_aload_n hx hb dX10_slotState_11 rfl (lv_at hl 0 rfl) ?_
  refine g_get hx hb hT hK hown fl_X10_37 hw 0 rfl (v := .ref (a 131)) rfl dX10_slotState_12 ?_
  exact g_aret hQ hx hb hr hlk hw rfl dX10_slotState_15
