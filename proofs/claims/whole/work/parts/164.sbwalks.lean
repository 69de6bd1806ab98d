set_option maxRecDepth 100000 in
set_option maxHeartbeats 4000000 in
theorem j_isLatin1 (l : Launch) (D : va_G) (g : Nat → ClassId) (t1 t2 : Nat) (adK adV : Nat → Nat) (o v : Nat) (ml n : Int32) : s_Ct l yJ5_isLatin1_aae02 cJ5_isLatin1_aae02 1 (some .boolean) 0 0 0 0 (e_St t1 t2 adK adV) D g [.ref o] [(o, .inr (0, [.ref v, .int 0, .int ml, .int n]))] (fun rv w1 => rv = some (.int 1) ∧ w1 = [(o, .inr (0, [.ref v, .int 0, .int ml, .int n]))]) := by
  refine s_start RJ5 (by decide) rfl (Nat.le_of_ble_eq_true rfl) ?_
  intro p0 e0 s0 m0 args below meth c0 A ls Q hQ hx hb hr hlk hml hown hT hK hA hE hw hl
  have hl : lv_has ls 1 [(0, .ref o)] := hl
  refine va_gets hx hb hE.1 hw.2.2 hown (hT _ zf_J5_18) (fun _ h9 => h9) dJ5_isLatin1_aae02_0 ?_
  refine lv_if_eq (tgt := 17) hx hb dJ5_isLatin1_aae02_3 (by decide) (fun h1 => absurd h1 (by decide)) (fun _ => ?_)
  refine lv_aload_n hx hb dJ5_isLatin1_aae02_6 rfl (lv_at hl 0 rfl) ?_
  refine s_get hx hb hT hK hown (k := 1) (by decide) zf_J5_22 hw 0 rfl (v := .int 0) rfl dJ5_isLatin1_aae02_7 ?_
  refine lv_if_ne (tgt := 17) hx hb dJ5_isLatin1_aae02_10 (by decide) (fun h1 => absurd (by decide) h1) (fun _ => ?_)
  refine lv_iconst (v := 1) hx hb dJ5_isLatin1_aae02_13 (by decide) ?_
  refine lv_goto (tgt := 18) hx hb dJ5_isLatin1_aae02_14 (by decide) ?_
  exact s_zret (ty := .boolean) hQ hx hb hr rfl hlk ⟨Nat.le_of_ble_eq_true rfl, Nat.le_of_ble_eq_true rfl⟩ hw (⟨rfl, rfl⟩) dJ5_isLatin1_aae02_18
set_option maxRecDepth 100000 in
set_option maxHeartbeats 4000000 in
theorem j_newLength (l : Launch) (D : va_G) (g : Nat → ClassId) (t1 t2 : Nat) (adK adV : Nat → Nat) (q m : Nat) (hq : q ≤ 64) (hm : m < q) : s_Ct l yJ8_newLength_cabcc cJ8_newLength_cabcc 4 (some .int) 1 0 0 14 (e_St t1 t2 adK adV) D g [.int (nI m), .int (nI (q - m)), .int (nI (m + 2))] [] (fun rv w1 => rv = some (.int (nI (sb_cap q m))) ∧ w1 = []) := by
  refine s_start RJ8 (by decide) rfl (Nat.le_of_ble_eq_true rfl) ?_
  intro p0 e0 s0 m0 args below meth c0 A ls Q hQ hx hb hr hlk hml hown hT hK hA hE hw hl
  have hl : lv_has ls 4 [(0, .int (nI m)), (1, .int (nI (q - m))), (2, .int (nI (m + 2)))] := hl
  refine lv_iload_n hx hb dJ8_newLength_cabcc_0 rfl (lv_at hl 0 rfl) ?_
  refine lv_iload_n hx hb dJ8_newLength_cabcc_1 rfl (lv_at hl 1 rfl) ?_
  refine lv_iload_n hx hb dJ8_newLength_cabcc_2 rfl (lv_at hl 2 rfl) ?_
  refine g_mmax hx hb hml hl.1 hown hT zh_J8_194 (Nat.le_of_ble_eq_true rfl) (Nat.le_of_ble_eq_true rfl) (Nat.le_of_ble_eq_true rfl) (Nat.le_of_ble_eq_true rfl) dJ8_newLength_cabcc_3 ?_
  rw [show g_max ((nI (q - m))) ((nI (m + 2))) = (nI (sb_cap q m - m)) from j_max hq hm]
  refine s_iadd (z := (nI (sb_cap q m))) hx hb dJ8_newLength_cabcc_6 (j_maxa hq hm) ?_
  refine lv_istore_n (lv' := [(3, .int (nI (sb_cap q m))), (0, .int (nI m)), (1, .int (nI (q - m))), (2, .int (nI (m + 2)))]) hx hb dJ8_newLength_cabcc_7 rfl hl (by decide) rfl (fun ls hl => ?_)
  refine lv_iconst (v := 0) hx hb dJ8_newLength_cabcc_8 (by decide) ?_
  refine lv_iload_n hx hb dJ8_newLength_cabcc_9 rfl (lv_at hl 0 rfl) ?_
  refine lv_icmp_ge (tgt := 21) hx hb dJ8_newLength_cabcc_10 (by decide) (fun h1 => absurd h1 (nI_nle (j_cap hq hm).1 (j_cap hq hm).2.2)) (fun _ => ?_)
  refine lv_iload_n hx hb dJ8_newLength_cabcc_13 rfl (lv_at hl 0 rfl) ?_
  refine lv_ldc hx hb hown (hT _ zq_J8_200) dJ8_newLength_cabcc_14 ?_
  refine lv_icmp_gt (tgt := 21) hx hb dJ8_newLength_cabcc_16 (by decide) (fun h1 => absurd h1 (j_big (j_cap hq hm).2.1)) (fun _ => ?_)
  refine lv_iload_n hx hb dJ8_newLength_cabcc_19 rfl (lv_at hl 0 rfl) ?_
  exact s_iret hQ hx hb hr hlk ⟨Nat.le_of_ble_eq_true rfl, Nat.le_of_ble_eq_true rfl⟩ hw (⟨rfl, rfl⟩) dJ8_newLength_cabcc_20
set_option maxRecDepth 100000 in
set_option maxHeartbeats 4000000 in
theorem j_newCapacity (l : Launch) (D : va_G) (g : Nat → ClassId) (t1 t2 : Nat) (adK adV : Nat → Nat) (o v : Nat) (ml n : Int32) (m : Nat) (f : Nat → Int32) (q : Nat) (hq : q ≤ 64) (hm : m < q) : s_Ct l yJ5_newCapacity_0f7a4 cJ5_newCapacity_0f7a4 6 (some .int) 2 0 0 37 (e_St t1 t2 adK adV) D g [.ref o, .int (nI q)] [(o, .inr (0, [.ref v, .int 0, .int ml, .int n])), (v, .inl (g 4, m, .inl f))] (fun rv w1 => rv = some (.int (nI (sb_cap q m))) ∧ w1 = [(o, .inr (0, [.ref v, .int 0, .int ml, .int n])), (v, .inl (g 4, m, .inl f))]) := by
  refine s_start RJ5 (by decide) rfl (Nat.le_of_ble_eq_true rfl) ?_
  intro p0 e0 s0 m0 args below meth c0 A ls Q hQ hx hb hr hlk hml hown hT hK hA hE hw hl
  have hl : lv_has ls 6 [(0, .ref o), (1, .int (nI q))] := hl
  refine lv_aload_n hx hb dJ5_newCapacity_0f7a4_0 rfl (lv_at hl 0 rfl) ?_
  refine s_get hx hb hT hK hown (k := 0) (by decide) zf_J5_15 hw 0 rfl (v := .ref v) rfl dJ5_newCapacity_0f7a4_1 ?_
  refine va_alen hx hb hK hw.1 1 4 rfl rfl (v := nI m) rfl dJ5_newCapacity_0f7a4_4 ?_
  refine lv_istore_n (lv' := [(2, .int (nI m)), (0, .ref o), (1, .int (nI q))]) hx hb dJ5_newCapacity_0f7a4_5 rfl hl (by decide) rfl (fun ls hl => ?_)
  refine lv_iload_n hx hb dJ5_newCapacity_0f7a4_6 rfl (lv_at hl 2 rfl) ?_
  refine lv_aload_n hx hb dJ5_newCapacity_0f7a4_7 rfl (lv_at hl 1 rfl) ?_
  refine s_get hx hb hT hK hown (k := 1) (by decide) zf_J5_22 hw 0 rfl (v := .int 0) rfl dJ5_newCapacity_0f7a4_8 ?_
  refine s_ishl0 hx hb dJ5_newCapacity_0f7a4_11 ?_
  refine lv_istore_n (lv' := [(3, .int (nI q)), (2, .int (nI m)), (0, .ref o), (1, .int (nI q))]) hx hb dJ5_newCapacity_0f7a4_12 rfl hl (by decide) rfl (fun ls hl => ?_)
  refine lv_iload_n hx hb dJ5_newCapacity_0f7a4_13 rfl (lv_at hl 0 rfl) ?_
  refine lv_iload_n hx hb dJ5_newCapacity_0f7a4_14 rfl (lv_at hl 1 rfl) ?_
  refine s_isub (z := (nI (q - m))) hx hb dJ5_newCapacity_0f7a4_15 (j_sub (by omega) (by omega)) ?_
  refine lv_istore (lv' := [(4, .int (nI (q - m))), (3, .int (nI q)), (2, .int (nI m)), (0, .ref o), (1, .int (nI q))]) hx hb dJ5_newCapacity_0f7a4_16 hl (by decide) rfl (fun ls hl => ?_)
  refine lv_iload_n hx hb dJ5_newCapacity_0f7a4_18 rfl (lv_at hl 2 rfl) ?_
  refine lv_iload hx hb dJ5_newCapacity_0f7a4_19 (lv_at hl 0 rfl) ?_
  refine lv_iload_n hx hb dJ5_newCapacity_0f7a4_21 rfl (lv_at hl 2 rfl) ?_
  refine lv_iconst (v := 2) hx hb dJ5_newCapacity_0f7a4_22 (by decide) ?_
  refine lv_aload_n hx hb dJ5_newCapacity_0f7a4_23 rfl (lv_at hl 3 rfl) ?_
  refine s_get hx hb hT hK hown (k := 1) (by decide) zf_J5_22 hw 0 rfl (v := .int 0) rfl dJ5_newCapacity_0f7a4_24 ?_
  refine s_ishl0 hx hb dJ5_newCapacity_0f7a4_27 ?_
  refine s_iadd (z := (nI (m + 2))) hx hb dJ5_newCapacity_0f7a4_28 (nI_add m 2) ?_
  refine s_callS hx hb hml hown hT hK hA e_ok hE hw zk_J5_114 (j_newLength l D g t1 t2 adK adV q m hq hm) [] [0, 1] rfl (by decide) (wr := [(o, .inr (0, [.ref v, .int 0, .int ml, .int n])), (v, .inl (g 4, m, .inl f))]) rfl (by decide) (by decide) rfl hl.1 [] rfl (Nat.le_of_ble_eq_true rfl) ⟨Nat.le_of_ble_eq_true rfl, Nat.le_of_ble_eq_true rfl⟩ ⟨Nat.le_of_ble_eq_true rfl, Nat.le_of_ble_eq_true rfl⟩ dJ5_newCapacity_0f7a4_29 (fun rv w1 H locs hp hw => ?_)
  obtain ⟨rfl, rfl⟩ := hp
  have hw : g_Wd D A s0.heap _ _ [(o, .inr (0, [.ref v, .int 0, .int ml, .int n])), (v, .inl (g 4, m, .inl f))] := hw
  refine lv_istore (lv' := [(5, .int (nI (sb_cap q m))), (4, .int (nI (q - m))), (3, .int (nI q)), (2, .int (nI m)), (0, .ref o), (1, .int (nI q))]) hx hb dJ5_newCapacity_0f7a4_32 hl (by decide) rfl (fun ls hl => ?_)
  refine lv_iload hx hb dJ5_newCapacity_0f7a4_34 (lv_at hl 0 rfl) ?_
  refine lv_ldc hx hb hown (hT _ zq_J5_39) dJ5_newCapacity_0f7a4_36 ?_
  refine lv_icmp_ne (tgt := 51) hx hb dJ5_newCapacity_0f7a4_38 (by decide) (fun _ => ?_) (fun h1 => absurd h1 (j_nemax (j_cap hq hm).2.1))
  refine lv_iload hx hb dJ5_newCapacity_0f7a4_51 (lv_at hl 0 rfl) ?_
  refine lv_aload_n hx hb dJ5_newCapacity_0f7a4_53 rfl (lv_at hl 4 rfl) ?_
  refine s_get hx hb hT hK hown (k := 1) (by decide) zf_J5_22 hw 0 rfl (v := .int 0) rfl dJ5_newCapacity_0f7a4_54 ?_
  refine s_ishr0 hx hb dJ5_newCapacity_0f7a4_57 ?_
  exact s_iret hQ hx hb hr hlk ⟨Nat.le_of_ble_eq_true rfl, Nat.le_of_ble_eq_true rfl⟩ hw (⟨rfl, rfl⟩) dJ5_newCapacity_0f7a4_58
set_option maxRecDepth 100000 in
set_option maxHeartbeats 4000000 in
theorem j_copyOf (l : Launch) (D : va_G) (g : Nat → ClassId) (t1 t2 : Nat) (adK adV : Nat → Nat) (v m : Nat) (f : Nat → Int32) (q : Nat) (hq : q ≤ 130) (hm : m < q) (hf : sb_Fit f) : s_Ct l yJ7_copyOf_9075b cJ7_copyOf_9075b 3 (some (.array .byte)) 1 1 130 40 (e_St t1 t2 adK adV) D g [.ref v, .int (nI q)] [(v, .inl (g 4, m, .inl f))] (fun rv w1 => ∃ (v2 : Nat) (f2 : Nat → Int32), (rv = some (.ref v2) ∧ f2 = va_cpy f (fun _ => 0) 0 0 m) ∧ w1 = [(v, .inl (g 4, m, .inl f)), (v2, .inl (g 4, q, .inl f2))]) := by
  refine s_start RJ7 (by decide) rfl (Nat.le_of_ble_eq_true rfl) ?_
  intro p0 e0 s0 m0 args below meth c0 A ls Q hQ hx hb hr hlk hml hown hT hK hA hE hw hl
  have hl : lv_has ls 3 [(0, .ref v), (1, .int (nI q))] := hl
  refine lv_iload_n hx hb dJ7_copyOf_9075b_0 rfl (lv_at hl 1 rfl) ?_
  refine lv_aload_n hx hb dJ7_copyOf_9075b_1 rfl (lv_at hl 0 rfl) ?_
  refine va_alen hx hb hK hw.1 0 4 rfl rfl (v := nI m) rfl dJ7_copyOf_9075b_2 ?_
  refine lv_icmp_ne (tgt := 14) hx hb dJ7_copyOf_9075b_3 (by decide) (fun _ => ?_) (fun h1 => absurd h1 (fun h => absurd ((nI_eq (by omega) (by omega)).mp h) (by omega)))
  refine lv_iload_n hx hb dJ7_copyOf_9075b_14 rfl (lv_at hl 1 rfl) ?_
  refine s_newa hx hb hT (t0 := 4) z_arr_byte rfl hK rfl hw hA (a0 := (q, .inl (fun _ => 0))) (fun _ => rfl) (nI_pos (by omega)) (nI_clamp (by omega)) (j_by hq) (Nat.le_of_ble_eq_true rfl) (j_slot hq) dJ7_copyOf_9075b_15 (fun v2 H hw => ?_)
  have hw : g_Wd D A s0.heap _ _ [(v, .inl (g 4, m, .inl f)), (v2, .inl (g 4, q, .inl (fun _ => 0)))] := hw
  refine lv_astore_n (lv' := [(2, .ref v2), (0, .ref v), (1, .int (nI q))]) hx hb dJ7_copyOf_9075b_17 rfl hl (by decide) rfl (fun ls hl => ?_)
  refine lv_aload_n hx hb dJ7_copyOf_9075b_18 rfl (lv_at hl 1 rfl) ?_
  refine lv_iconst (v := 0) hx hb dJ7_copyOf_9075b_19 (by decide) ?_
  refine lv_aload_n hx hb dJ7_copyOf_9075b_20 rfl (lv_at hl 0 rfl) ?_
  refine lv_iconst (v := 0) hx hb dJ7_copyOf_9075b_21 (by decide) ?_
  refine lv_aload_n hx hb dJ7_copyOf_9075b_22 rfl (lv_at hl 1 rfl) ?_
  refine va_alen hx hb hK hw.1 0 4 rfl rfl (v := nI m) rfl dJ7_copyOf_9075b_23 ?_
  refine lv_iload_n hx hb dJ7_copyOf_9075b_24 rfl (lv_at hl 2 rfl) ?_
  refine g_mmin hx hb hml hl.1 hown hT zh_J7_304 (Nat.le_of_ble_eq_true rfl) (Nat.le_of_ble_eq_true rfl) (Nat.le_of_ble_eq_true rfl) (j_slot hq) dJ7_copyOf_9075b_25 ?_
  rw [show g_min ((nI m)) ((nI q)) = (nI m) from j_min (by omega) (by omega)]
  refine g_copyi hx hb hml hl.1 hown hT hK hw za_J7_150 za_nat za_st za_ini 0 1 4 rfl rfl rfl rfl (j_ok (by omega) (by omega)) (fun i _ => hf _) (f2 := (va_cpy f (fun _ => 0) 0 0 m)) (j_cpe (by omega)) (ws' := [(v, .inl (g 4, m, .inl f)), (v2, .inl (g 4, q, .inl (va_cpy f (fun _ => 0) 0 0 m)))]) rfl (Nat.le_of_ble_eq_true rfl) (Nat.le_of_ble_eq_true rfl) dJ7_copyOf_9075b_28 (fun H locs hw => ?_)
  refine lv_aload_n hx hb dJ7_copyOf_9075b_31 rfl (lv_at hl 0 rfl) ?_
  exact s_aret hQ hx hb hr (Or.inr ⟨_, rfl⟩) hlk ⟨Nat.le_of_ble_eq_true rfl, j_slot hq⟩ hw (⟨v2, _, ⟨rfl, rfl⟩, rfl⟩) dJ7_copyOf_9075b_32
set_option maxRecDepth 100000 in
set_option maxHeartbeats 4000000 in
theorem j_ens1 (l : Launch) (D : va_G) (g : Nat → ClassId) (t1 t2 : Nat) (adK adV : Nat → Nat) (o v : Nat) (ml n : Int32) (m : Nat) (f : Nat → Int32) (q : Nat) (hq : q ≤ 64) (hqm : m < q) (hf : sb_Fit f) : s_Ct l yJ5_ensureCapacityInternal_d00df cJ5_ensureCapacityInternal_d00df 3 none 3 1 130 62 (e_St t1 t2 adK adV) D g [.ref o, .int (nI q)] [(o, .inr (0, [.ref v, .int 0, .int ml, .int n])), (v, .inl (g 4, m, .inl f))] (fun rv w1 => ∃ (v2 m2 : Nat) (f2 : Nat → Int32), (rv = none ∧ (q ≤ m2 ∧ m ≤ m2 ∧ m2 ≤ 130) ∧ sb_Fit f2 ∧ ∀ j, j < m → f2 j = f j) ∧ w1 = [(o, .inr (0, [.ref v2, .int 0, .int ml, .int n])), (v2, .inl (g 4, m2, .inl f2))]) := by
  refine s_start RJ5 (by decide) rfl (Nat.le_of_ble_eq_true rfl) ?_
  intro p0 e0 s0 m0 args below meth c0 A ls Q hQ hx hb hr hlk hml hown hT hK hA hE hw hl
  have hl : lv_has ls 3 [(0, .ref o), (1, .int (nI q))] := hl
  refine lv_aload_n hx hb dJ5_ensureCapacityInternal_d00df_0 rfl (lv_at hl 0 rfl) ?_
  refine s_get hx hb hT hK hown (k := 0) (by decide) zf_J5_15 hw 0 rfl (v := .ref v) rfl dJ5_ensureCapacityInternal_d00df_1 ?_
  refine va_alen hx hb hK hw.1 1 4 rfl rfl (v := nI m) rfl dJ5_ensureCapacityInternal_d00df_4 ?_
  refine lv_aload_n hx hb dJ5_ensureCapacityInternal_d00df_5 rfl (lv_at hl 0 rfl) ?_
  refine s_get hx hb hT hK hown (k := 1) (by decide) zf_J5_22 hw 0 rfl (v := .int 0) rfl dJ5_ensureCapacityInternal_d00df_6 ?_
  refine s_ishr0 hx hb dJ5_ensureCapacityInternal_d00df_9 ?_
  refine lv_istore_n (lv' := [(2, .int (nI m)), (0, .ref o), (1, .int (nI q))]) hx hb dJ5_ensureCapacityInternal_d00df_10 rfl hl (by decide) rfl (fun ls hl => ?_)
  refine lv_iload_n hx hb dJ5_ensureCapacityInternal_d00df_11 rfl (lv_at hl 2 rfl) ?_
  refine lv_iload_n hx hb dJ5_ensureCapacityInternal_d00df_12 rfl (lv_at hl 0 rfl) ?_
  refine lv_isub hx hb dJ5_ensureCapacityInternal_d00df_13 ?_
  refine lv_if_le (tgt := 38) hx hb dJ5_ensureCapacityInternal_d00df_14 (by decide) (fun h1 => absurd h1 (j_subG hq hqm)) (fun _ => ?_)
  refine lv_aload_n hx hb dJ5_ensureCapacityInternal_d00df_17 rfl (lv_at hl 1 rfl) ?_
  refine lv_aload_n hx hb dJ5_ensureCapacityInternal_d00df_18 rfl (lv_at hl 1 rfl) ?_
  refine s_get hx hb hT hK hown (k := 0) (by decide) zf_J5_15 hw 0 rfl (v := .ref v) rfl dJ5_ensureCapacityInternal_d00df_19 ?_
  refine lv_aload_n hx hb dJ5_ensureCapacityInternal_d00df_22 rfl (lv_at hl 1 rfl) ?_
  refine lv_iload_n hx hb dJ5_ensureCapacityInternal_d00df_23 rfl (lv_at hl 2 rfl) ?_
  refine s_callV (C := RJ4) hx hb hml hown hT hK hA e_ok hE hw zk_J5_104 zn_J5_newCapacity_0f7a4 (e_sel hE 1 rfl) (j_newCapacity l D g t1 t2 adK adV o v ml n m f q hq hqm) [0, 1] [] rfl (by decide) (wr := []) rfl (by decide) (by decide) (va_recv hK hw.1 (q := (RJ4, TJ4, 4)) (q0 := 0) rfl rfl) rfl hl.1 [.ref v, .ref o] rfl (Nat.le_of_ble_eq_true rfl) ⟨Nat.le_of_ble_eq_true rfl, Nat.le_of_ble_eq_true rfl⟩ ⟨Nat.le_of_ble_eq_true rfl, Nat.le_of_ble_eq_true rfl⟩ dJ5_ensureCapacityInternal_d00df_24 (fun rv w1 H locs hp hw => ?_)
  obtain ⟨rfl, rfl⟩ := hp
  have hw : g_Wd D A s0.heap _ _ [(o, .inr (0, [.ref v, .int 0, .int ml, .int n])), (v, .inl (g 4, m, .inl f))] := hw
  refine lv_aload_n hx hb dJ5_ensureCapacityInternal_d00df_27 rfl (lv_at hl 1 rfl) ?_
  refine s_get hx hb hT hK hown (k := 1) (by decide) zf_J5_22 hw 0 rfl (v := .int 0) rfl dJ5_ensureCapacityInternal_d00df_28 ?_
  refine s_ishl0 hx hb dJ5_ensureCapacityInternal_d00df_31 ?_
  refine s_callS hx hb hml hown hT hK hA e_ok hE hw zk_J5_108 (j_copyOf l D g t1 t2 adK adV v m f (sb_cap q m) (j_cap hq hqm).2.1 (j_capl hqm) hf) [1] [0] rfl (by decide) (wr := [(o, .inr (0, [.ref v, .int 0, .int ml, .int n]))]) rfl (by decide) (by decide) rfl hl.1 [.ref o] rfl (Nat.le_of_ble_eq_true rfl) ⟨Nat.le_of_ble_eq_true rfl, Nat.le_of_ble_eq_true rfl⟩ ⟨Nat.le_of_ble_eq_true rfl, Nat.le_of_ble_eq_true rfl⟩ dJ5_ensureCapacityInternal_d00df_32 (fun rv w1 H locs hp hw => ?_)
  obtain ⟨v2, f2, ⟨rfl, hf2⟩, rfl⟩ := hp
  have hw : g_Wd D A s0.heap _ _ [(o, .inr (0, [.ref v, .int 0, .int ml, .int n])), (v, .inl (g 4, m, .inl f)), (v2, .inl (g 4, (sb_cap q m), .inl f2))] := hw
  refine s_put hx hb hT hK hown (k := 0) (by decide) zf_J5_15 hw 0 rfl rfl rfl rfl (Nat.le_of_ble_eq_true rfl) (ws' := [(o, .inr (0, [.ref v2, .int 0, .int ml, .int n])), (v, .inl (g 4, m, .inl f)), (v2, .inl (g 4, (sb_cap q m), .inl f2))]) rfl dJ5_ensureCapacityInternal_d00df_35 (fun H locs hw => ?_)
  have hw := s_drop (wc := [(o, .inr (0, [.ref v2, .int 0, .int ml, .int n])), (v2, .inl (g 4, (sb_cap q m), .inl f2))]) hw [0, 2] rfl (by decide)
  exact s_vret hQ hx hb hr hlk ⟨Nat.le_of_ble_eq_true rfl, Nat.le_of_ble_eq_true rfl⟩ hw (⟨v2, sb_cap q m, f2, ⟨rfl, ⟨sb_cap_ge q m, sb_cap_gem q m, (j_cap hq hqm).2.1⟩, hf2 ▸ sb_fitC hf sb_fit0, fun j hj => hf2 ▸ sb_cpy0 hj⟩, rfl⟩) dJ5_ensureCapacityInternal_d00df_38
set_option maxRecDepth 100000 in
set_option maxHeartbeats 4000000 in
theorem j_ens0 (l : Launch) (D : va_G) (g : Nat → ClassId) (t1 t2 : Nat) (adK adV : Nat → Nat) (o v : Nat) (ml n : Int32) (m : Nat) (f : Nat → Int32) (q : Nat) (hq : q ≤ 64) (hm : m ≤ 130) (hqm : q ≤ m) (hf : sb_Fit f) : s_Ct l yJ5_ensureCapacityInternal_d00df cJ5_ensureCapacityInternal_d00df 3 none 3 1 130 62 (e_St t1 t2 adK adV) D g [.ref o, .int (nI q)] [(o, .inr (0, [.ref v, .int 0, .int ml, .int n])), (v, .inl (g 4, m, .inl f))] (fun rv w1 => ∃ (v2 m2 : Nat) (f2 : Nat → Int32), (rv = none ∧ (q ≤ m2 ∧ m ≤ m2 ∧ m2 ≤ 130) ∧ sb_Fit f2 ∧ ∀ j, j < m → f2 j = f j) ∧ w1 = [(o, .inr (0, [.ref v2, .int 0, .int ml, .int n])), (v2, .inl (g 4, m2, .inl f2))]) := by
  refine s_start RJ5 (by decide) rfl (Nat.le_of_ble_eq_true rfl) ?_
  intro p0 e0 s0 m0 args below meth c0 A ls Q hQ hx hb hr hlk hml hown hT hK hA hE hw hl
  have hl : lv_has ls 3 [(0, .ref o), (1, .int (nI q))] := hl
  refine lv_aload_n hx hb dJ5_ensureCapacityInternal_d00df_0 rfl (lv_at hl 0 rfl) ?_
  refine s_get hx hb hT hK hown (k := 0) (by decide) zf_J5_15 hw 0 rfl (v := .ref v) rfl dJ5_ensureCapacityInternal_d00df_1 ?_
  refine va_alen hx hb hK hw.1 1 4 rfl rfl (v := nI m) rfl dJ5_ensureCapacityInternal_d00df_4 ?_
  refine lv_aload_n hx hb dJ5_ensureCapacityInternal_d00df_5 rfl (lv_at hl 0 rfl) ?_
  refine s_get hx hb hT hK hown (k := 1) (by decide) zf_J5_22 hw 0 rfl (v := .int 0) rfl dJ5_ensureCapacityInternal_d00df_6 ?_
  refine s_ishr0 hx hb dJ5_ensureCapacityInternal_d00df_9 ?_
  refine lv_istore_n (lv' := [(2, .int (nI m)), (0, .ref o), (1, .int (nI q))]) hx hb dJ5_ensureCapacityInternal_d00df_10 rfl hl (by decide) rfl (fun ls hl => ?_)
  refine lv_iload_n hx hb dJ5_ensureCapacityInternal_d00df_11 rfl (lv_at hl 2 rfl) ?_
  refine lv_iload_n hx hb dJ5_ensureCapacityInternal_d00df_12 rfl (lv_at hl 0 rfl) ?_
  refine lv_isub hx hb dJ5_ensureCapacityInternal_d00df_13 ?_
  refine lv_if_le (tgt := 38) hx hb dJ5_ensureCapacityInternal_d00df_14 (by decide) (fun _ => ?_) (fun h1 => absurd (j_subL hq hm hqm) h1)
  exact s_vret hQ hx hb hr hlk ⟨Nat.le_of_ble_eq_true rfl, Nat.le_of_ble_eq_true rfl⟩ hw (⟨v, m, f, ⟨rfl, ⟨hqm, Nat.le_refl _, hm⟩, hf, fun _ _ => rfl⟩, rfl⟩) dJ5_ensureCapacityInternal_d00df_38
theorem j_ens (l : Launch) (D : va_G) (g : Nat → ClassId) (t1 t2 : Nat) (adK adV : Nat → Nat) (o v : Nat) (ml n : Int32) (m : Nat) (f : Nat → Int32) (q : Nat) (hq : q ≤ 64) (hm : m ≤ 130) (hf : sb_Fit f) : s_Ct l yJ5_ensureCapacityInternal_d00df cJ5_ensureCapacityInternal_d00df 3 none 3 1 130 62 (e_St t1 t2 adK adV) D g [.ref o, .int (nI q)] [(o, .inr (0, [.ref v, .int 0, .int ml, .int n])), (v, .inl (g 4, m, .inl f))] (fun rv w1 => ∃ (v2 m2 : Nat) (f2 : Nat → Int32), (rv = none ∧ (q ≤ m2 ∧ m ≤ m2 ∧ m2 ≤ 130) ∧ sb_Fit f2 ∧ ∀ j, j < m → f2 j = f j) ∧ w1 = [(o, .inr (0, [.ref v2, .int 0, .int ml, .int n])), (v2, .inl (g 4, m2, .inl f2))]) := by
  rcases Nat.lt_or_ge m q with h | h
  · exact j_ens1 l D g t1 t2 adK adV o v ml n m f q hq h hf
  · exact j_ens0 l D g t1 t2 adK adV o v ml n m f q hq hm h hf
set_option maxRecDepth 100000 in
set_option maxHeartbeats 4000000 in
theorem j_canEncode (l : Launch) (D : va_G) (g : Nat → ClassId) (t1 t2 : Nat) (adK adV : Nat → Nat) (x : Nat) (hx8 : x < 128) : s_Ct l yJ1_canEncode_fc78d cJ1_canEncode_fc78d 1 (some .boolean) 0 0 0 0 (e_St t1 t2 adK adV) D g [.int (nI x)] [] (fun rv w1 => rv = some (.int 1) ∧ w1 = []) := by
  refine s_start RJ1 (by decide) rfl (Nat.le_of_ble_eq_true rfl) ?_
  intro p0 e0 s0 m0 args below meth c0 A ls Q hQ hx hb hr hlk hml hown hT hK hA hE hw hl
  have hl : lv_has ls 1 [(0, .int (nI x))] := hl
  refine lv_iload_n hx hb dJ1_canEncode_fc78d_0 rfl (lv_at hl 0 rfl) ?_
  refine lv_sipush (v := 255) hx hb dJ1_canEncode_fc78d_1 (by decide) ?_
  refine lv_icmp_gt (tgt := 11) hx hb dJ1_canEncode_fc78d_4 (by decide) (fun h1 => absurd h1 (j_n255 hx8)) (fun _ => ?_)
  refine lv_iconst (v := 1) hx hb dJ1_canEncode_fc78d_7 (by decide) ?_
  refine lv_goto (tgt := 12) hx hb dJ1_canEncode_fc78d_8 (by decide) ?_
  exact s_zret (ty := .boolean) hQ hx hb hr rfl hlk ⟨Nat.le_of_ble_eq_true rfl, Nat.le_of_ble_eq_true rfl⟩ hw (⟨rfl, rfl⟩) dJ1_canEncode_fc78d_12
set_option maxRecDepth 100000 in
set_option maxHeartbeats 4000000 in
theorem j_appC (l : Launch) (D : va_G) (g : Nat → ClassId) (t1 t2 : Nat) (adK adV : Nat → Nat) (o v : Nat) (ml : Int32) (m : Nat) (f : Nat → Int32) (t : List Nat) (x : Nat) (ht : sbT t m f) (hl6 : t.length + 1 ≤ 64) (hx8 : x < 128) : s_Ct l yJ5_append_3fe6f cJ5_append_3fe6f 2 (some (.object "java/lang/AbstractStringBuilder")) 4 1 130 84 (e_St t1 t2 adK adV) D g [.ref o, .int (nI x)] [(o, .inr (0, [.ref v, .int 0, .int ml, .int (nI t.length)])), (v, .inl (g 4, m, .inl f))] (fun rv w1 => ∃ (v2 m2 : Nat) (f2 : Nat → Int32), (rv = some (.ref o) ∧ sbT (t ++ [x]) m2 f2) ∧ w1 = [(o, .inr (0, [.ref v2, .int 0, .int ml, .int (nI (t ++ [x]).length)])), (v2, .inl (g 4, m2, .inl f2))]) := by
  refine s_start RJ5 (by decide) rfl (Nat.le_of_ble_eq_true rfl) ?_
  intro p0 e0 s0 m0 args below meth c0 A ls Q hQ hx hb hr hlk hml hown hT hK hA hE hw hl
  have hl : lv_has ls 2 [(0, .ref o), (1, .int (nI x))] := hl
  refine lv_aload_n hx hb dJ5_append_3fe6f_0 rfl (lv_at hl 0 rfl) ?_
  refine lv_aload_n hx hb dJ5_append_3fe6f_1 rfl (lv_at hl 0 rfl) ?_
  refine s_get hx hb hT hK hown (k := 3) (by decide) zf_J5_79 hw 0 rfl (v := .int (nI t.length)) rfl dJ5_append_3fe6f_2 ?_
  refine lv_iconst (v := 1) hx hb dJ5_append_3fe6f_5 (by decide) ?_
  refine s_iadd (z := (nI (t.length + 1))) hx hb dJ5_append_3fe6f_6 (nI_1 _) ?_
  refine s_callV (C := RJ4) hx hb hml hown hT hK hA e_ok hE hw zk_J5_100 zn_J5_ensureCapacityInternal_d00df (e_sel hE 0 rfl) (j_ens l D g t1 t2 adK adV o v ml (nI t.length) m f (t.length + 1) (hl6) ht.2.1 ht.2.2.1) [0, 1] [] rfl (by decide) (wr := []) rfl (by decide) (by decide) (va_recv hK hw.1 (q := (RJ4, TJ4, 4)) (q0 := 0) rfl rfl) rfl hl.1 [] rfl (Nat.le_of_ble_eq_true rfl) ⟨Nat.le_of_ble_eq_true rfl, Nat.le_of_ble_eq_true rfl⟩ ⟨Nat.le_of_ble_eq_true rfl, Nat.le_of_ble_eq_true rfl⟩ dJ5_append_3fe6f_7 (fun rv w1 H locs hp hw => ?_)
  obtain ⟨v2, m2, f2, ⟨rfl, hm2, hf2, hj2⟩, rfl⟩ := hp
  have hw : g_Wd D A s0.heap _ _ [(o, .inr (0, [.ref v2, .int 0, .int ml, .int (nI t.length)])), (v2, .inl (g 4, m2, .inl f2))] := hw
  have ht2 := sbT_keep ht hm2.2 hf2 hj2
  refine lv_aload_n hx hb dJ5_append_3fe6f_10 rfl (lv_at hl 0 rfl) ?_
  refine s_callV (C := RJ4) hx hb hml hown hT hK hA e_ok hE hw zk_J5_83 zn_J5_isLatin1_aae02 (hT _ zl_J5_isLatin1_aae02) (j_isLatin1 l D g t1 t2 adK adV o v2 ml (nI t.length)) [0] [1] rfl (by decide) (wr := [(v2, .inl (g 4, m2, .inl f2))]) rfl (by decide) (by decide) (va_recv hK hw.1 (q := (RJ4, TJ4, 4)) (q0 := 0) rfl rfl) rfl hl.1 [] rfl (Nat.le_of_ble_eq_true rfl) ⟨Nat.le_of_ble_eq_true rfl, Nat.le_of_ble_eq_true rfl⟩ ⟨Nat.le_of_ble_eq_true rfl, Nat.le_of_ble_eq_true rfl⟩ dJ5_append_3fe6f_11 (fun rv w1 H locs hp hw => ?_)
  obtain ⟨rfl, rfl⟩ := hp
  have hw : g_Wd D A s0.heap _ _ [(v2, .inl (g 4, m2, .inl f2)), (o, .inr (0, [.ref v2, .int 0, .int ml, .int (nI t.length)]))] := hw
  refine lv_if_eq (tgt := 45) hx hb dJ5_append_3fe6f_14 (by decide) (fun h1 => absurd h1 (by decide)) (fun _ => ?_)
  refine lv_iload_n hx hb dJ5_append_3fe6f_17 rfl (lv_at hl 1 rfl) ?_
  refine s_callS hx hb hml hown hT hK hA e_ok hE hw zk_J5_191 (j_canEncode l D g t1 t2 adK adV x hx8) [] [0, 1] rfl (by decide) (wr := [(v2, .inl (g 4, m2, .inl f2)), (o, .inr (0, [.ref v2, .int 0, .int ml, .int (nI t.length)]))]) rfl (by decide) (by decide) rfl hl.1 [] rfl (Nat.le_of_ble_eq_true rfl) ⟨Nat.le_of_ble_eq_true rfl, Nat.le_of_ble_eq_true rfl⟩ ⟨Nat.le_of_ble_eq_true rfl, Nat.le_of_ble_eq_true rfl⟩ dJ5_append_3fe6f_18 (fun rv w1 H locs hp hw => ?_)
  obtain ⟨rfl, rfl⟩ := hp
  have hw : g_Wd D A s0.heap _ _ [(v2, .inl (g 4, m2, .inl f2)), (o, .inr (0, [.ref v2, .int 0, .int ml, .int (nI t.length)]))] := hw
  refine lv_if_eq (tgt := 45) hx hb dJ5_append_3fe6f_21 (by decide) (fun h1 => absurd h1 (by decide)) (fun _ => ?_)
  refine lv_aload_n hx hb dJ5_append_3fe6f_24 rfl (lv_at hl 0 rfl) ?_
  refine s_get hx hb hT hK hown (k := 0) (by decide) zf_J5_15 hw 1 rfl (v := .ref v2) rfl dJ5_append_3fe6f_25 ?_
  refine lv_aload_n hx hb dJ5_append_3fe6f_28 rfl (lv_at hl 0 rfl) ?_
  refine lv_dup hx hb dJ5_append_3fe6f_29 rfl ?_
  refine s_get hx hb hT hK hown (k := 3) (by decide) zf_J5_79 hw 1 rfl (v := .int (nI t.length)) rfl dJ5_append_3fe6f_30 ?_
  refine lv_dup_x1 hx hb dJ5_append_3fe6f_33 rfl rfl ?_
  refine lv_iconst (v := 1) hx hb dJ5_append_3fe6f_34 (by decide) ?_
  refine s_iadd (z := (nI (t.length + 1))) hx hb dJ5_append_3fe6f_35 (nI_1 _) ?_
  refine s_put hx hb hT hK hown (k := 3) (by decide) zf_J5_79 hw 1 rfl rfl rfl rfl (Nat.le_of_ble_eq_true rfl) (ws' := [(v2, .inl (g 4, m2, .inl f2)), (o, .inr (0, [.ref v2, .int 0, .int ml, .int (nI (t.length + 1))]))]) rfl dJ5_append_3fe6f_36 (fun H locs hw => ?_)
  refine lv_iload_n hx hb dJ5_append_3fe6f_39 rfl (lv_at hl 1 rfl) ?_
  refine lv_i2b hx hb dJ5_append_3fe6f_40 (sb_fitN x hx8).2.1 ?_
  refine s_bast hx hb hK hw 0 rfl (vp_in_nI hm2.1 (by omega)) (f1 := (upd f2 t.length (nI x))) (j_up (by omega) hx8) (ws' := [(v2, .inl (g 4, m2, .inl (upd f2 t.length (nI x)))), (o, .inr (0, [.ref v2, .int 0, .int ml, .int (nI (t.length + 1))]))]) rfl dJ5_append_3fe6f_41 (fun H locs hw => ?_)
  refine lv_goto (tgt := 75) hx hb dJ5_append_3fe6f_42 (by decide) ?_
  refine lv_aload_n hx hb dJ5_append_3fe6f_75 rfl (lv_at hl 0 rfl) ?_
  have hw := s_drop (wc := [(o, .inr (0, [.ref v2, .int 0, .int ml, .int (nI (t.length + 1))])), (v2, .inl (g 4, m2, .inl (upd f2 t.length (nI x))))]) hw [1, 0] rfl (by decide)
  exact s_aret hQ hx hb hr (Or.inl ⟨_, rfl⟩) hlk ⟨Nat.le_of_ble_eq_true rfl, Nat.le_of_ble_eq_true rfl⟩ hw (⟨v2, m2, _, ⟨rfl, sbT_put ht2 hm2.1 hx8⟩, by rw [List.length_append]; rfl⟩) dJ5_append_3fe6f_76
set_option maxRecDepth 100000 in
set_option maxHeartbeats 4000000 in
theorem j_size1 (l : Launch) (D : va_G) (g : Nat → ClassId) (t1 t2 : Nat) (adK adV : Nat → Nat) (k : Nat) (hk : k < 10) : s_Ct l yJ6_stringSize_0f7a4 cJ6_stringSize_0f7a4 4 (some .int) 0 0 0 0 (e_St t1 t2 adK adV) D g [.int (nI k)] [] (fun rv w1 => rv = some (.int (nI 1)) ∧ w1 = []) := by
  refine s_start RJ6 (by decide) rfl (Nat.le_of_ble_eq_true rfl) ?_
  intro p0 e0 s0 m0 args below meth c0 A ls Q hQ hx hb hr hlk hml hown hT hK hA hE hw hl
  have hl : lv_has ls 4 [(0, .int (nI k))] := hl
  refine lv_iconst (v := 1) hx hb dJ6_stringSize_0f7a4_0 (by decide) ?_
  refine lv_istore_n (lv' := [(1, .int 1), (0, .int (nI k))]) hx hb dJ6_stringSize_0f7a4_1 rfl hl (by decide) rfl (fun ls hl => ?_)
  refine lv_iload_n hx hb dJ6_stringSize_0f7a4_2 rfl (lv_at hl 1 rfl) ?_
  refine lv_if_lt (tgt := 11) hx hb dJ6_stringSize_0f7a4_3 (by decide) (fun h1 => absurd h1 (nI_pos (by omega))) (fun _ => ?_)
  refine lv_iconst (v := 0) hx hb dJ6_stringSize_0f7a4_6 (by decide) ?_
  refine lv_istore_n (lv' := [(1, .int 0), (0, .int (nI k))]) hx hb dJ6_stringSize_0f7a4_7 rfl hl (by decide) rfl (fun ls hl => ?_)
  refine lv_iload_n hx hb dJ6_stringSize_0f7a4_8 rfl (lv_at hl 1 rfl) ?_
  refine lv_ineg hx hb dJ6_stringSize_0f7a4_9 ?_
  refine lv_istore_n (lv' := [(0, .int (-(nI k))), (1, .int 0)]) hx hb dJ6_stringSize_0f7a4_10 rfl hl (by decide) rfl (fun ls hl => ?_)
  refine lv_bipush (v := -10) hx hb dJ6_stringSize_0f7a4_11 (by decide) ?_
  refine lv_istore_n (lv' := [(2, .int (-10)), (0, .int (-(nI k))), (1, .int 0)]) hx hb dJ6_stringSize_0f7a4_13 rfl hl (by decide) rfl (fun ls hl => ?_)
  refine lv_iconst (v := 1) hx hb dJ6_stringSize_0f7a4_14 (by decide) ?_
  refine lv_istore_n (lv' := [(3, .int 1), (2, .int (-10)), (0, .int (-(nI k))), (1, .int 0)]) hx hb dJ6_stringSize_0f7a4_15 rfl hl (by decide) rfl (fun ls hl => ?_)
  refine lv_iload_n hx hb dJ6_stringSize_0f7a4_16 rfl (lv_at hl 0 rfl) ?_
  refine lv_bipush (v := 10) hx hb dJ6_stringSize_0f7a4_17 (by decide) ?_
  refine lv_icmp_ge (tgt := 42) hx hb dJ6_stringSize_0f7a4_19 (by decide) (fun h1 => absurd h1 (by decide)) (fun _ => ?_)
  refine lv_iload_n hx hb dJ6_stringSize_0f7a4_22 rfl (lv_at hl 2 rfl) ?_
  refine lv_iload_n hx hb dJ6_stringSize_0f7a4_23 rfl (lv_at hl 1 rfl) ?_
  refine lv_icmp_le (tgt := 31) hx hb dJ6_stringSize_0f7a4_24 (by decide) (fun h1 => absurd h1 (j_n10 hk)) (fun _ => ?_)
  refine lv_iload_n hx hb dJ6_stringSize_0f7a4_27 rfl (lv_at hl 0 rfl) ?_
  refine lv_iload_n hx hb dJ6_stringSize_0f7a4_28 rfl (lv_at hl 3 rfl) ?_
  refine lv_iadd hx hb dJ6_stringSize_0f7a4_29 ?_
  exact s_iret hQ hx hb hr hlk ⟨Nat.le_of_ble_eq_true rfl, Nat.le_of_ble_eq_true rfl⟩ hw (⟨rfl, rfl⟩) dJ6_stringSize_0f7a4_30
set_option maxRecDepth 100000 in
set_option maxHeartbeats 4000000 in
theorem j_size2 (l : Launch) (D : va_G) (g : Nat → ClassId) (t1 t2 : Nat) (adK adV : Nat → Nat) (k : Nat) (hk : 10 ≤ k) (hk2 : k < 100) : s_Ct l yJ6_stringSize_0f7a4 cJ6_stringSize_0f7a4 4 (some .int) 0 0 0 0 (e_St t1 t2 adK adV) D g [.int (nI k)] [] (fun rv w1 => rv = some (.int (nI 2)) ∧ w1 = []) := by
  refine s_start RJ6 (by decide) rfl (Nat.le_of_ble_eq_true rfl) ?_
  intro p0 e0 s0 m0 args below meth c0 A ls Q hQ hx hb hr hlk hml hown hT hK hA hE hw hl
  have hl : lv_has ls 4 [(0, .int (nI k))] := hl
  refine lv_iconst (v := 1) hx hb dJ6_stringSize_0f7a4_0 (by decide) ?_
  refine lv_istore_n (lv' := [(1, .int 1), (0, .int (nI k))]) hx hb dJ6_stringSize_0f7a4_1 rfl hl (by decide) rfl (fun ls hl => ?_)
  refine lv_iload_n hx hb dJ6_stringSize_0f7a4_2 rfl (lv_at hl 1 rfl) ?_
  refine lv_if_lt (tgt := 11) hx hb dJ6_stringSize_0f7a4_3 (by decide) (fun h1 => absurd h1 (nI_pos (by omega))) (fun _ => ?_)
  refine lv_iconst (v := 0) hx hb dJ6_stringSize_0f7a4_6 (by decide) ?_
  refine lv_istore_n (lv' := [(1, .int 0), (0, .int (nI k))]) hx hb dJ6_stringSize_0f7a4_7 rfl hl (by decide) rfl (fun ls hl => ?_)
  refine lv_iload_n hx hb dJ6_stringSize_0f7a4_8 rfl (lv_at hl 1 rfl) ?_
  refine lv_ineg hx hb dJ6_stringSize_0f7a4_9 ?_
  refine lv_istore_n (lv' := [(0, .int (-(nI k))), (1, .int 0)]) hx hb dJ6_stringSize_0f7a4_10 rfl hl (by decide) rfl (fun ls hl => ?_)
  refine lv_bipush (v := -10) hx hb dJ6_stringSize_0f7a4_11 (by decide) ?_
  refine lv_istore_n (lv' := [(2, .int (-10)), (0, .int (-(nI k))), (1, .int 0)]) hx hb dJ6_stringSize_0f7a4_13 rfl hl (by decide) rfl (fun ls hl => ?_)
  refine lv_iconst (v := 1) hx hb dJ6_stringSize_0f7a4_14 (by decide) ?_
  refine lv_istore_n (lv' := [(3, .int 1), (2, .int (-10)), (0, .int (-(nI k))), (1, .int 0)]) hx hb dJ6_stringSize_0f7a4_15 rfl hl (by decide) rfl (fun ls hl => ?_)
  refine lv_iload_n hx hb dJ6_stringSize_0f7a4_16 rfl (lv_at hl 0 rfl) ?_
  refine lv_bipush (v := 10) hx hb dJ6_stringSize_0f7a4_17 (by decide) ?_
  refine lv_icmp_ge (tgt := 42) hx hb dJ6_stringSize_0f7a4_19 (by decide) (fun h1 => absurd h1 (by decide)) (fun _ => ?_)
  refine lv_iload_n hx hb dJ6_stringSize_0f7a4_22 rfl (lv_at hl 2 rfl) ?_
  refine lv_iload_n hx hb dJ6_stringSize_0f7a4_23 rfl (lv_at hl 1 rfl) ?_
  refine lv_icmp_le (tgt := 31) hx hb dJ6_stringSize_0f7a4_24 (by decide) (fun _ => ?_) (fun h1 => absurd (j_y10 hk hk2) h1)
  refine lv_bipush (v := 10) hx hb dJ6_stringSize_0f7a4_31 (by decide) ?_
  refine lv_iload_n hx hb dJ6_stringSize_0f7a4_33 rfl (lv_at hl 1 rfl) ?_
  refine lv_imul hx hb dJ6_stringSize_0f7a4_34 ?_
  refine lv_istore_n (lv' := [(2, .int (10 * (-10))), (3, .int 1), (0, .int (-(nI k))), (1, .int 0)]) hx hb dJ6_stringSize_0f7a4_35 rfl hl (by decide) rfl (fun ls hl => ?_)
  refine lv_iinc (lv' := [(3, .int 2), (2, .int (10 * (-10))), (0, .int (-(nI k))), (1, .int 0)]) hx hb dJ6_stringSize_0f7a4_36 hl (k := 1) rfl (by decide) (by decide) rfl (fun ls hl => ?_)
  refine lv_goto (tgt := 16) hx hb dJ6_stringSize_0f7a4_39 (by decide) ?_
  refine lv_iload_n hx hb dJ6_stringSize_0f7a4_16 rfl (lv_at hl 0 rfl) ?_
  refine lv_bipush (v := 10) hx hb dJ6_stringSize_0f7a4_17 (by decide) ?_
  refine lv_icmp_ge (tgt := 42) hx hb dJ6_stringSize_0f7a4_19 (by decide) (fun h1 => absurd h1 (by decide)) (fun _ => ?_)
  refine lv_iload_n hx hb dJ6_stringSize_0f7a4_22 rfl (lv_at hl 2 rfl) ?_
  refine lv_iload_n hx hb dJ6_stringSize_0f7a4_23 rfl (lv_at hl 1 rfl) ?_
  refine lv_icmp_le (tgt := 31) hx hb dJ6_stringSize_0f7a4_24 (by decide) (fun h1 => absurd h1 (j_n100 hk2)) (fun _ => ?_)
  refine lv_iload_n hx hb dJ6_stringSize_0f7a4_27 rfl (lv_at hl 0 rfl) ?_
  refine lv_iload_n hx hb dJ6_stringSize_0f7a4_28 rfl (lv_at hl 3 rfl) ?_
  refine lv_iadd hx hb dJ6_stringSize_0f7a4_29 ?_
  exact s_iret hQ hx hb hr hlk ⟨Nat.le_of_ble_eq_true rfl, Nat.le_of_ble_eq_true rfl⟩ hw (⟨rfl, rfl⟩) dJ6_stringSize_0f7a4_30
set_option maxRecDepth 100000 in
set_option maxHeartbeats 4000000 in
theorem j_chars1 (l : Launch) (D : va_G) (g : Nat → ClassId) (t1 t2 : Nat) (adK adV : Nat → Nat) (v m : Nat) (f : Nat → Int32) (k p : Nat) (hk : k < 10) (hp8 : p + 1 ≤ m) (hm : m ≤ 130) : s_Ct l yJ6_getChars_ba4f3 cJ6_getChars_ba4f3 7 (some .int) 0 0 0 0 (e_St t1 t2 adK adV) D g [.int (nI k), .int (nI (p + 1)), .ref v] [(v, .inl (g 4, m, .inl f))] (fun rv w1 => rv = some (.int (nI p)) ∧ w1 = [(v, .inl (g 4, m, .inl (upd f p (nI (48 + k % 10)))))]) := by
  refine s_start RJ6 (by decide) rfl (Nat.le_of_ble_eq_true rfl) ?_
  intro p0 e0 s0 m0 args below meth c0 A ls Q hQ hx hb hr hlk hml hown hT hK hA hE hw hl
  have hl : lv_has ls 7 [(0, .int (nI k)), (1, .int (nI (p + 1))), (2, .ref v)] := hl
  refine lv_iload_n hx hb dJ6_getChars_ba4f3_0 rfl (lv_at hl 1 rfl) ?_
  refine lv_istore (lv' := [(5, .int (nI (p + 1))), (0, .int (nI k)), (1, .int (nI (p + 1))), (2, .ref v)]) hx hb dJ6_getChars_ba4f3_1 hl (by decide) rfl (fun ls hl => ?_)
  refine lv_iload_n hx hb dJ6_getChars_ba4f3_3 rfl (lv_at hl 1 rfl) ?_
  refine lv_if_ge (tgt := 11) hx hb dJ6_getChars_ba4f3_4 (by decide) (fun _ => ?_) (fun h1 => absurd (nI_pos' (by omega)) h1)
  refine lv_iconst (v := 0) hx hb dJ6_getChars_ba4f3_11 (by decide) ?_
  refine lv_istore (lv' := [(6, .int 0), (5, .int (nI (p + 1))), (0, .int (nI k)), (1, .int (nI (p + 1))), (2, .ref v)]) hx hb dJ6_getChars_ba4f3_12 hl (by decide) rfl (fun ls hl => ?_)
  refine lv_iload hx hb dJ6_getChars_ba4f3_14 (lv_at hl 0 rfl) ?_
  refine lv_if_ne (tgt := 22) hx hb dJ6_getChars_ba4f3_16 (by decide) (fun h1 => absurd (by decide) h1) (fun _ => ?_)
  refine lv_iload_n hx hb dJ6_getChars_ba4f3_19 rfl (lv_at hl 2 rfl) ?_
  refine lv_ineg hx hb dJ6_getChars_ba4f3_20 ?_
  refine lv_istore_n (lv' := [(0, .int (-(nI k))), (6, .int 0), (5, .int (nI (p + 1))), (1, .int (nI (p + 1))), (2, .ref v)]) hx hb dJ6_getChars_ba4f3_21 rfl hl (by decide) rfl (fun ls hl => ?_)
  refine lv_iload_n hx hb dJ6_getChars_ba4f3_22 rfl (lv_at hl 0 rfl) ?_
  refine lv_bipush (v := -100) hx hb dJ6_getChars_ba4f3_23 (by decide) ?_
  refine lv_icmp_gt (tgt := 72) hx hb dJ6_getChars_ba4f3_25 (by decide) (fun _ => ?_) (fun h1 => absurd (j_gt100 (by omega)) h1)
  refine lv_aload_n hx hb dJ6_getChars_ba4f3_72 rfl (lv_at hl 4 rfl) ?_
  refine lv_iinc (lv' := [(5, .int (nI p)), (0, .int (-(nI k))), (6, .int 0), (1, .int (nI (p + 1))), (2, .ref v)]) hx hb dJ6_getChars_ba4f3_73 hl (k := 2) rfl (j_dec _) (by decide) rfl (fun ls hl => ?_)
  refine lv_iload hx hb dJ6_getChars_ba4f3_76 (lv_at hl 0 rfl) ?_
  refine va_gets hx hb hE.2.1.1 hw.2.2 hown (hT _ zf_J6_83) (fun _ h9 => h9) dJ6_getChars_ba4f3_78 ?_
  refine lv_iload_n hx hb dJ6_getChars_ba4f3_81 rfl (lv_at hl 1 rfl) ?_
  refine s_ineg (z := nI k) hx hb dJ6_getChars_ba4f3_82 Int32.neg_neg ?_
  refine va_tb hx hb hE.2.1.2 hw.2.2 (vp_in_nI (by omega) (by omega)) (j_tb k (by omega)) dJ6_getChars_ba4f3_83 ?_
  refine s_bast hx hb hK hw 0 rfl (vp_in_nI (by omega) (by omega)) (f1 := (upd f p (nI (48 + k % 10)))) (j_up (by omega) (by omega)) (ws' := [(v, .inl (g 4, m, .inl (upd f p (nI (48 + k % 10)))))]) rfl dJ6_getChars_ba4f3_84 (fun H locs hw => ?_)
  refine lv_iload_n hx hb dJ6_getChars_ba4f3_85 rfl (lv_at hl 1 rfl) ?_
  refine lv_bipush (v := -9) hx hb dJ6_getChars_ba4f3_86 (by decide) ?_
  refine lv_icmp_ge (tgt := 104) hx hb dJ6_getChars_ba4f3_88 (by decide) (fun _ => ?_) (fun h1 => absurd (j_ge9 hk) h1)
  refine lv_iload hx hb dJ6_getChars_ba4f3_104 (lv_at hl 2 rfl) ?_
  refine lv_if_eq (tgt := 118) hx hb dJ6_getChars_ba4f3_106 (by decide) (fun _ => ?_) (fun h1 => absurd (rfl) h1)
  refine lv_iload hx hb dJ6_getChars_ba4f3_118 (lv_at hl 0 rfl) ?_
  exact s_iret hQ hx hb hr hlk ⟨Nat.le_of_ble_eq_true rfl, Nat.le_of_ble_eq_true rfl⟩ hw (⟨rfl, rfl⟩) dJ6_getChars_ba4f3_120
set_option maxRecDepth 100000 in
set_option maxHeartbeats 4000000 in
theorem j_chars2 (l : Launch) (D : va_G) (g : Nat → ClassId) (t1 t2 : Nat) (adK adV : Nat → Nat) (v m : Nat) (f : Nat → Int32) (k p : Nat) (hk : 10 ≤ k) (hk2 : k < 100) (hp8 : p + 2 ≤ m) (hm : m ≤ 130) : s_Ct l yJ6_getChars_ba4f3 cJ6_getChars_ba4f3 7 (some .int) 0 0 0 0 (e_St t1 t2 adK adV) D g [.int (nI k), .int (nI (p + 1 + 1)), .ref v] [(v, .inl (g 4, m, .inl f))] (fun rv w1 => rv = some (.int (nI p)) ∧ w1 = [(v, .inl (g 4, m, .inl (upd (upd f (p + 1) (nI (48 + k % 10))) p (nI (48 + k / 10)))))]) := by
  refine s_start RJ6 (by decide) rfl (Nat.le_of_ble_eq_true rfl) ?_
  intro p0 e0 s0 m0 args below meth c0 A ls Q hQ hx hb hr hlk hml hown hT hK hA hE hw hl
  have hl : lv_has ls 7 [(0, .int (nI k)), (1, .int (nI (p + 1 + 1))), (2, .ref v)] := hl
  refine lv_iload_n hx hb dJ6_getChars_ba4f3_0 rfl (lv_at hl 1 rfl) ?_
  refine lv_istore (lv' := [(5, .int (nI (p + 1 + 1))), (0, .int (nI k)), (1, .int (nI (p + 1 + 1))), (2, .ref v)]) hx hb dJ6_getChars_ba4f3_1 hl (by decide) rfl (fun ls hl => ?_)
  refine lv_iload_n hx hb dJ6_getChars_ba4f3_3 rfl (lv_at hl 1 rfl) ?_
  refine lv_if_ge (tgt := 11) hx hb dJ6_getChars_ba4f3_4 (by decide) (fun _ => ?_) (fun h1 => absurd (nI_pos' (by omega)) h1)
  refine lv_iconst (v := 0) hx hb dJ6_getChars_ba4f3_11 (by decide) ?_
  refine lv_istore (lv' := [(6, .int 0), (5, .int (nI (p + 1 + 1))), (0, .int (nI k)), (1, .int (nI (p + 1 + 1))), (2, .ref v)]) hx hb dJ6_getChars_ba4f3_12 hl (by decide) rfl (fun ls hl => ?_)
  refine lv_iload hx hb dJ6_getChars_ba4f3_14 (lv_at hl 0 rfl) ?_
  refine lv_if_ne (tgt := 22) hx hb dJ6_getChars_ba4f3_16 (by decide) (fun h1 => absurd (by decide) h1) (fun _ => ?_)
  refine lv_iload_n hx hb dJ6_getChars_ba4f3_19 rfl (lv_at hl 2 rfl) ?_
  refine lv_ineg hx hb dJ6_getChars_ba4f3_20 ?_
  refine lv_istore_n (lv' := [(0, .int (-(nI k))), (6, .int 0), (5, .int (nI (p + 1 + 1))), (1, .int (nI (p + 1 + 1))), (2, .ref v)]) hx hb dJ6_getChars_ba4f3_21 rfl hl (by decide) rfl (fun ls hl => ?_)
  refine lv_iload_n hx hb dJ6_getChars_ba4f3_22 rfl (lv_at hl 0 rfl) ?_
  refine lv_bipush (v := -100) hx hb dJ6_getChars_ba4f3_23 (by decide) ?_
  refine lv_icmp_gt (tgt := 72) hx hb dJ6_getChars_ba4f3_25 (by decide) (fun _ => ?_) (fun h1 => absurd (j_gt100 (by omega)) h1)
  refine lv_aload_n hx hb dJ6_getChars_ba4f3_72 rfl (lv_at hl 4 rfl) ?_
  refine lv_iinc (lv' := [(5, .int (nI (p + 1))), (0, .int (-(nI k))), (6, .int 0), (1, .int (nI (p + 1 + 1))), (2, .ref v)]) hx hb dJ6_getChars_ba4f3_73 hl (k := 2) rfl (j_dec _) (by decide) rfl (fun ls hl => ?_)
  refine lv_iload hx hb dJ6_getChars_ba4f3_76 (lv_at hl 0 rfl) ?_
  refine va_gets hx hb hE.2.1.1 hw.2.2 hown (hT _ zf_J6_83) (fun _ h9 => h9) dJ6_getChars_ba4f3_78 ?_
  refine lv_iload_n hx hb dJ6_getChars_ba4f3_81 rfl (lv_at hl 1 rfl) ?_
  refine s_ineg (z := nI k) hx hb dJ6_getChars_ba4f3_82 Int32.neg_neg ?_
  refine va_tb hx hb hE.2.1.2 hw.2.2 (vp_in_nI (by omega) (by omega)) (j_tb k (by omega)) dJ6_getChars_ba4f3_83 ?_
  refine s_bast hx hb hK hw 0 rfl (vp_in_nI (by omega) (by omega)) (f1 := (upd f (p + 1) (nI (48 + k % 10)))) (j_up (by omega) (by omega)) (ws' := [(v, .inl (g 4, m, .inl (upd f (p + 1) (nI (48 + k % 10)))))]) rfl dJ6_getChars_ba4f3_84 (fun H locs hw => ?_)
  refine lv_iload_n hx hb dJ6_getChars_ba4f3_85 rfl (lv_at hl 1 rfl) ?_
  refine lv_bipush (v := -9) hx hb dJ6_getChars_ba4f3_86 (by decide) ?_
  refine lv_icmp_ge (tgt := 104) hx hb dJ6_getChars_ba4f3_88 (by decide) (fun h1 => absurd h1 (j_nge9 hk hk2)) (fun _ => ?_)
  refine lv_aload_n hx hb dJ6_getChars_ba4f3_91 rfl (lv_at hl 4 rfl) ?_
  refine lv_iinc (lv' := [(5, .int (nI p)), (0, .int (-(nI k))), (6, .int 0), (1, .int (nI (p + 1 + 1))), (2, .ref v)]) hx hb dJ6_getChars_ba4f3_92 hl (k := 0) rfl (j_dec _) (by decide) rfl (fun ls hl => ?_)
  refine lv_iload hx hb dJ6_getChars_ba4f3_95 (lv_at hl 0 rfl) ?_
  refine va_gets hx hb hE.2.2.1.1 hw.2.2 hown (hT _ zf_J6_87) (fun _ h9 => h9) dJ6_getChars_ba4f3_97 ?_
  refine lv_iload_n hx hb dJ6_getChars_ba4f3_100 rfl (lv_at hl 1 rfl) ?_
  refine s_ineg (z := nI k) hx hb dJ6_getChars_ba4f3_101 Int32.neg_neg ?_
  refine va_tb hx hb hE.2.2.1.2 hw.2.2 (vp_in_nI (by omega) (by omega)) (j_tc k (by omega)) dJ6_getChars_ba4f3_102 ?_
  refine s_bast hx hb hK hw 0 rfl (vp_in_nI (by omega) (by omega)) (f1 := (upd (upd f (p + 1) (nI (48 + k % 10))) p (nI (48 + k / 10)))) (j_up (by omega) (by omega)) (ws' := [(v, .inl (g 4, m, .inl (upd (upd f (p + 1) (nI (48 + k % 10))) p (nI (48 + k / 10)))))]) rfl dJ6_getChars_ba4f3_103 (fun H locs hw => ?_)
  refine lv_iload hx hb dJ6_getChars_ba4f3_104 (lv_at hl 2 rfl) ?_
  refine lv_if_eq (tgt := 118) hx hb dJ6_getChars_ba4f3_106 (by decide) (fun _ => ?_) (fun h1 => absurd (rfl) h1)
  refine lv_iload hx hb dJ6_getChars_ba4f3_118 (lv_at hl 0 rfl) ?_
  exact s_iret hQ hx hb hr hlk ⟨Nat.le_of_ble_eq_true rfl, Nat.le_of_ble_eq_true rfl⟩ hw (⟨rfl, rfl⟩) dJ6_getChars_ba4f3_120
set_option maxRecDepth 100000 in
set_option maxHeartbeats 4000000 in
theorem j_appI1 (l : Launch) (D : va_G) (g : Nat → ClassId) (t1 t2 : Nat) (adK adV : Nat → Nat) (o v : Nat) (ml : Int32) (m : Nat) (f : Nat → Int32) (t : List Nat) (k : Nat) (ht : sbT t m f) (hl6 : t.length + 1 ≤ 64) (hk : k < 10) : s_Ct l yJ5_append_c97b9 cJ5_append_c97b9 4 (some (.object "java/lang/AbstractStringBuilder")) 4 1 130 84 (e_St t1 t2 adK adV) D g [.ref o, .int (nI k)] [(o, .inr (0, [.ref v, .int 0, .int ml, .int (nI t.length)])), (v, .inl (g 4, m, .inl f))] (fun rv w1 => ∃ (v2 m2 : Nat) (f2 : Nat → Int32), (rv = some (.ref o) ∧ sbT (t ++ numN k) m2 f2) ∧ w1 = [(o, .inr (0, [.ref v2, .int 0, .int ml, .int (nI (t ++ numN k).length)])), (v2, .inl (g 4, m2, .inl f2))]) := by
  refine s_start RJ5 (by decide) rfl (Nat.le_of_ble_eq_true rfl) ?_
  intro p0 e0 s0 m0 args below meth c0 A ls Q hQ hx hb hr hlk hml hown hT hK hA hE hw hl
  have hl : lv_has ls 4 [(0, .ref o), (1, .int (nI k))] := hl
  refine lv_aload_n hx hb dJ5_append_c97b9_0 rfl (lv_at hl 0 rfl) ?_
  refine s_get hx hb hT hK hown (k := 3) (by decide) zf_J5_79 hw 0 rfl (v := .int (nI t.length)) rfl dJ5_append_c97b9_1 ?_
  refine lv_istore_n (lv' := [(2, .int (nI t.length)), (0, .ref o), (1, .int (nI k))]) hx hb dJ5_append_c97b9_4 rfl hl (by decide) rfl (fun ls hl => ?_)
  refine lv_iload_n hx hb dJ5_append_c97b9_5 rfl (lv_at hl 0 rfl) ?_
  refine lv_iload_n hx hb dJ5_append_c97b9_6 rfl (lv_at hl 2 rfl) ?_
  refine s_callS hx hb hml hown hT hK hA e_ok hE hw zk_J5_245 (j_size1 l D g t1 t2 adK adV k hk) [] [0, 1] rfl (by decide) (wr := [(o, .inr (0, [.ref v, .int 0, .int ml, .int (nI t.length)])), (v, .inl (g 4, m, .inl f))]) rfl (by decide) (by decide) rfl hl.1 [.int (nI t.length)] rfl (Nat.le_of_ble_eq_true rfl) ⟨Nat.le_of_ble_eq_true rfl, Nat.le_of_ble_eq_true rfl⟩ ⟨Nat.le_of_ble_eq_true rfl, Nat.le_of_ble_eq_true rfl⟩ dJ5_append_c97b9_7 (fun rv w1 H locs hp hw => ?_)
  obtain ⟨rfl, rfl⟩ := hp
  have hw : g_Wd D A s0.heap _ _ [(o, .inr (0, [.ref v, .int 0, .int ml, .int (nI t.length)])), (v, .inl (g 4, m, .inl f))] := hw
  refine s_iadd (z := (nI (t.length + 1))) hx hb dJ5_append_c97b9_10 (nI_add _ _) ?_
  refine lv_istore_n (lv' := [(3, .int (nI (t.length + 1))), (2, .int (nI t.length)), (0, .ref o), (1, .int (nI k))]) hx hb dJ5_append_c97b9_11 rfl hl (by decide) rfl (fun ls hl => ?_)
  refine lv_aload_n hx hb dJ5_append_c97b9_12 rfl (lv_at hl 2 rfl) ?_
  refine lv_iload_n hx hb dJ5_append_c97b9_13 rfl (lv_at hl 0 rfl) ?_
  refine s_callV (C := RJ4) hx hb hml hown hT hK hA e_ok hE hw zk_J5_100 zn_J5_ensureCapacityInternal_d00df (e_sel hE 0 rfl) (j_ens l D g t1 t2 adK adV o v ml (nI t.length) m f (t.length + 1) (hl6) ht.2.1 ht.2.2.1) [0, 1] [] rfl (by decide) (wr := []) rfl (by decide) (by decide) (va_recv hK hw.1 (q := (RJ4, TJ4, 4)) (q0 := 0) rfl rfl) rfl hl.1 [] rfl (Nat.le_of_ble_eq_true rfl) ⟨Nat.le_of_ble_eq_true rfl, Nat.le_of_ble_eq_true rfl⟩ ⟨Nat.le_of_ble_eq_true rfl, Nat.le_of_ble_eq_true rfl⟩ dJ5_append_c97b9_14 (fun rv w1 H locs hp hw => ?_)
  obtain ⟨v2, m2, f2, ⟨rfl, hm2, hf2, hj2⟩, rfl⟩ := hp
  have hw : g_Wd D A s0.heap _ _ [(o, .inr (0, [.ref v2, .int 0, .int ml, .int (nI t.length)])), (v2, .inl (g 4, m2, .inl f2))] := hw
  have ht2 := sbT_keep ht hm2.2 hf2 hj2
  refine lv_aload_n hx hb dJ5_append_c97b9_17 rfl (lv_at hl 2 rfl) ?_
  refine s_callV (C := RJ4) hx hb hml hown hT hK hA e_ok hE hw zk_J5_83 zn_J5_isLatin1_aae02 (hT _ zl_J5_isLatin1_aae02) (j_isLatin1 l D g t1 t2 adK adV o v2 ml (nI t.length)) [0] [1] rfl (by decide) (wr := [(v2, .inl (g 4, m2, .inl f2))]) rfl (by decide) (by decide) (va_recv hK hw.1 (q := (RJ4, TJ4, 4)) (q0 := 0) rfl rfl) rfl hl.1 [] rfl (Nat.le_of_ble_eq_true rfl) ⟨Nat.le_of_ble_eq_true rfl, Nat.le_of_ble_eq_true rfl⟩ ⟨Nat.le_of_ble_eq_true rfl, Nat.le_of_ble_eq_true rfl⟩ dJ5_append_c97b9_18 (fun rv w1 H locs hp hw => ?_)
  obtain ⟨rfl, rfl⟩ := hp
  have hw : g_Wd D A s0.heap _ _ [(v2, .inl (g 4, m2, .inl f2)), (o, .inr (0, [.ref v2, .int 0, .int ml, .int (nI t.length)]))] := hw
  refine lv_if_eq (tgt := 37) hx hb dJ5_append_c97b9_21 (by decide) (fun h1 => absurd h1 (by decide)) (fun _ => ?_)
  refine lv_iload_n hx hb dJ5_append_c97b9_24 rfl (lv_at hl 3 rfl) ?_
  refine lv_iload_n hx hb dJ5_append_c97b9_25 rfl (lv_at hl 0 rfl) ?_
  refine lv_aload_n hx hb dJ5_append_c97b9_26 rfl (lv_at hl 2 rfl) ?_
  refine s_get hx hb hT hK hown (k := 0) (by decide) zf_J5_15 hw 1 rfl (v := .ref v2) rfl dJ5_append_c97b9_27 ?_
  refine s_callS hx hb hml hown hT hK hA e_ok hE hw zk_J5_248 (j_chars1 l D g t1 t2 adK adV v2 m2 f2 k t.length hk hm2.1 ht2.2.1) [0] [1] rfl (by decide) (wr := [(o, .inr (0, [.ref v2, .int 0, .int ml, .int (nI t.length)]))]) rfl (by decide) (by decide) rfl hl.1 [] rfl (Nat.le_of_ble_eq_true rfl) ⟨Nat.le_of_ble_eq_true rfl, Nat.le_of_ble_eq_true rfl⟩ ⟨Nat.le_of_ble_eq_true rfl, Nat.le_of_ble_eq_true rfl⟩ dJ5_append_c97b9_30 (fun rv w1 H locs hp hw => ?_)
  obtain ⟨rfl, rfl⟩ := hp
  have hw : g_Wd D A s0.heap _ _ [(o, .inr (0, [.ref v2, .int 0, .int ml, .int (nI t.length)])), (v2, .inl (g 4, m2, .inl (upd f2 t.length (nI (48 + k % 10)))))] := hw
  refine lv_pop hx hb dJ5_append_c97b9_33 rfl ?_
  refine lv_goto (tgt := 48) hx hb dJ5_append_c97b9_34 (by decide) ?_
  refine lv_aload_n hx hb dJ5_append_c97b9_48 rfl (lv_at hl 2 rfl) ?_
  refine lv_iload_n hx hb dJ5_append_c97b9_49 rfl (lv_at hl 0 rfl) ?_
  refine s_put hx hb hT hK hown (k := 3) (by decide) zf_J5_79 hw 0 rfl rfl rfl rfl (Nat.le_of_ble_eq_true rfl) (ws' := [(o, .inr (0, [.ref v2, .int 0, .int ml, .int (nI (t.length + 1))])), (v2, .inl (g 4, m2, .inl (upd f2 t.length (nI (48 + k % 10)))))]) rfl dJ5_append_c97b9_50 (fun H locs hw => ?_)
  refine lv_aload_n hx hb dJ5_append_c97b9_53 rfl (lv_at hl 2 rfl) ?_
  exact s_aret hQ hx hb hr (Or.inl ⟨_, rfl⟩) hlk ⟨Nat.le_of_ble_eq_true rfl, Nat.le_of_ble_eq_true rfl⟩ hw (⟨v2, m2, _, ⟨rfl, j_num1 ht2 hm2.1 hk⟩, j_nln1 hk⟩) dJ5_append_c97b9_54
set_option maxRecDepth 100000 in
set_option maxHeartbeats 4000000 in
theorem j_appI2 (l : Launch) (D : va_G) (g : Nat → ClassId) (t1 t2 : Nat) (adK adV : Nat → Nat) (o v : Nat) (ml : Int32) (m : Nat) (f : Nat → Int32) (t : List Nat) (k : Nat) (ht : sbT t m f) (hl6 : t.length + 1 + 1 ≤ 64) (hk : 10 ≤ k) (hk2 : k < 100) : s_Ct l yJ5_append_c97b9 cJ5_append_c97b9 4 (some (.object "java/lang/AbstractStringBuilder")) 4 1 130 84 (e_St t1 t2 adK adV) D g [.ref o, .int (nI k)] [(o, .inr (0, [.ref v, .int 0, .int ml, .int (nI t.length)])), (v, .inl (g 4, m, .inl f))] (fun rv w1 => ∃ (v2 m2 : Nat) (f2 : Nat → Int32), (rv = some (.ref o) ∧ sbT (t ++ numN k) m2 f2) ∧ w1 = [(o, .inr (0, [.ref v2, .int 0, .int ml, .int (nI (t ++ numN k).length)])), (v2, .inl (g 4, m2, .inl f2))]) := by
  refine s_start RJ5 (by decide) rfl (Nat.le_of_ble_eq_true rfl) ?_
  intro p0 e0 s0 m0 args below meth c0 A ls Q hQ hx hb hr hlk hml hown hT hK hA hE hw hl
  have hl : lv_has ls 4 [(0, .ref o), (1, .int (nI k))] := hl
  refine lv_aload_n hx hb dJ5_append_c97b9_0 rfl (lv_at hl 0 rfl) ?_
  refine s_get hx hb hT hK hown (k := 3) (by decide) zf_J5_79 hw 0 rfl (v := .int (nI t.length)) rfl dJ5_append_c97b9_1 ?_
  refine lv_istore_n (lv' := [(2, .int (nI t.length)), (0, .ref o), (1, .int (nI k))]) hx hb dJ5_append_c97b9_4 rfl hl (by decide) rfl (fun ls hl => ?_)
  refine lv_iload_n hx hb dJ5_append_c97b9_5 rfl (lv_at hl 0 rfl) ?_
  refine lv_iload_n hx hb dJ5_append_c97b9_6 rfl (lv_at hl 2 rfl) ?_
  refine s_callS hx hb hml hown hT hK hA e_ok hE hw zk_J5_245 (j_size2 l D g t1 t2 adK adV k hk hk2) [] [0, 1] rfl (by decide) (wr := [(o, .inr (0, [.ref v, .int 0, .int ml, .int (nI t.length)])), (v, .inl (g 4, m, .inl f))]) rfl (by decide) (by decide) rfl hl.1 [.int (nI t.length)] rfl (Nat.le_of_ble_eq_true rfl) ⟨Nat.le_of_ble_eq_true rfl, Nat.le_of_ble_eq_true rfl⟩ ⟨Nat.le_of_ble_eq_true rfl, Nat.le_of_ble_eq_true rfl⟩ dJ5_append_c97b9_7 (fun rv w1 H locs hp hw => ?_)
  obtain ⟨rfl, rfl⟩ := hp
  have hw : g_Wd D A s0.heap _ _ [(o, .inr (0, [.ref v, .int 0, .int ml, .int (nI t.length)])), (v, .inl (g 4, m, .inl f))] := hw
  refine s_iadd (z := (nI (t.length + 1 + 1))) hx hb dJ5_append_c97b9_10 (nI_add _ _) ?_
  refine lv_istore_n (lv' := [(3, .int (nI (t.length + 1 + 1))), (2, .int (nI t.length)), (0, .ref o), (1, .int (nI k))]) hx hb dJ5_append_c97b9_11 rfl hl (by decide) rfl (fun ls hl => ?_)
  refine lv_aload_n hx hb dJ5_append_c97b9_12 rfl (lv_at hl 2 rfl) ?_
  refine lv_iload_n hx hb dJ5_append_c97b9_13 rfl (lv_at hl 0 rfl) ?_
  refine s_callV (C := RJ4) hx hb hml hown hT hK hA e_ok hE hw zk_J5_100 zn_J5_ensureCapacityInternal_d00df (e_sel hE 0 rfl) (j_ens l D g t1 t2 adK adV o v ml (nI t.length) m f (t.length + 1 + 1) (hl6) ht.2.1 ht.2.2.1) [0, 1] [] rfl (by decide) (wr := []) rfl (by decide) (by decide) (va_recv hK hw.1 (q := (RJ4, TJ4, 4)) (q0 := 0) rfl rfl) rfl hl.1 [] rfl (Nat.le_of_ble_eq_true rfl) ⟨Nat.le_of_ble_eq_true rfl, Nat.le_of_ble_eq_true rfl⟩ ⟨Nat.le_of_ble_eq_true rfl, Nat.le_of_ble_eq_true rfl⟩ dJ5_append_c97b9_14 (fun rv w1 H locs hp hw => ?_)
  obtain ⟨v2, m2, f2, ⟨rfl, hm2, hf2, hj2⟩, rfl⟩ := hp
  have hw : g_Wd D A s0.heap _ _ [(o, .inr (0, [.ref v2, .int 0, .int ml, .int (nI t.length)])), (v2, .inl (g 4, m2, .inl f2))] := hw
  have ht2 := sbT_keep ht hm2.2 hf2 hj2
  refine lv_aload_n hx hb dJ5_append_c97b9_17 rfl (lv_at hl 2 rfl) ?_
  refine s_callV (C := RJ4) hx hb hml hown hT hK hA e_ok hE hw zk_J5_83 zn_J5_isLatin1_aae02 (hT _ zl_J5_isLatin1_aae02) (j_isLatin1 l D g t1 t2 adK adV o v2 ml (nI t.length)) [0] [1] rfl (by decide) (wr := [(v2, .inl (g 4, m2, .inl f2))]) rfl (by decide) (by decide) (va_recv hK hw.1 (q := (RJ4, TJ4, 4)) (q0 := 0) rfl rfl) rfl hl.1 [] rfl (Nat.le_of_ble_eq_true rfl) ⟨Nat.le_of_ble_eq_true rfl, Nat.le_of_ble_eq_true rfl⟩ ⟨Nat.le_of_ble_eq_true rfl, Nat.le_of_ble_eq_true rfl⟩ dJ5_append_c97b9_18 (fun rv w1 H locs hp hw => ?_)
  obtain ⟨rfl, rfl⟩ := hp
  have hw : g_Wd D A s0.heap _ _ [(v2, .inl (g 4, m2, .inl f2)), (o, .inr (0, [.ref v2, .int 0, .int ml, .int (nI t.length)]))] := hw
  refine lv_if_eq (tgt := 37) hx hb dJ5_append_c97b9_21 (by decide) (fun h1 => absurd h1 (by decide)) (fun _ => ?_)
  refine lv_iload_n hx hb dJ5_append_c97b9_24 rfl (lv_at hl 3 rfl) ?_
  refine lv_iload_n hx hb dJ5_append_c97b9_25 rfl (lv_at hl 0 rfl) ?_
  refine lv_aload_n hx hb dJ5_append_c97b9_26 rfl (lv_at hl 2 rfl) ?_
  refine s_get hx hb hT hK hown (k := 0) (by decide) zf_J5_15 hw 1 rfl (v := .ref v2) rfl dJ5_append_c97b9_27 ?_
  refine s_callS hx hb hml hown hT hK hA e_ok hE hw zk_J5_248 (j_chars2 l D g t1 t2 adK adV v2 m2 f2 k t.length hk hk2 hm2.1 ht2.2.1) [0] [1] rfl (by decide) (wr := [(o, .inr (0, [.ref v2, .int 0, .int ml, .int (nI t.length)]))]) rfl (by decide) (by decide) rfl hl.1 [] rfl (Nat.le_of_ble_eq_true rfl) ⟨Nat.le_of_ble_eq_true rfl, Nat.le_of_ble_eq_true rfl⟩ ⟨Nat.le_of_ble_eq_true rfl, Nat.le_of_ble_eq_true rfl⟩ dJ5_append_c97b9_30 (fun rv w1 H locs hp hw => ?_)
  obtain ⟨rfl, rfl⟩ := hp
  have hw : g_Wd D A s0.heap _ _ [(o, .inr (0, [.ref v2, .int 0, .int ml, .int (nI t.length)])), (v2, .inl (g 4, m2, .inl (upd (upd f2 (t.length + 1) (nI (48 + k % 10))) t.length (nI (48 + k / 10)))))] := hw
  refine lv_pop hx hb dJ5_append_c97b9_33 rfl ?_
  refine lv_goto (tgt := 48) hx hb dJ5_append_c97b9_34 (by decide) ?_
  refine lv_aload_n hx hb dJ5_append_c97b9_48 rfl (lv_at hl 2 rfl) ?_
  refine lv_iload_n hx hb dJ5_append_c97b9_49 rfl (lv_at hl 0 rfl) ?_
  refine s_put hx hb hT hK hown (k := 3) (by decide) zf_J5_79 hw 0 rfl rfl rfl rfl (Nat.le_of_ble_eq_true rfl) (ws' := [(o, .inr (0, [.ref v2, .int 0, .int ml, .int (nI (t.length + 1 + 1))])), (v2, .inl (g 4, m2, .inl (upd (upd f2 (t.length + 1) (nI (48 + k % 10))) t.length (nI (48 + k / 10)))))]) rfl dJ5_append_c97b9_50 (fun H locs hw => ?_)
  refine lv_aload_n hx hb dJ5_append_c97b9_53 rfl (lv_at hl 2 rfl) ?_
  exact s_aret hQ hx hb hr (Or.inl ⟨_, rfl⟩) hlk ⟨Nat.le_of_ble_eq_true rfl, Nat.le_of_ble_eq_true rfl⟩ hw (⟨v2, m2, _, ⟨rfl, j_num2 ht2 hm2.1 hk hk2⟩, j_nln2 hk hk2⟩) dJ5_append_c97b9_54
set_option maxRecDepth 100000 in
set_option maxHeartbeats 4000000 in
theorem j_coder (l : Launch) (D : va_G) (g : Nat → ClassId) (t1 t2 : Nat) (adK adV : Nat → Nat) (i : Nat) (hi7 : i < 7) : s_Ct l yJ0_coder_7d493 cJ0_coder_7d493 1 (some .byte) 0 0 0 0 (e_St t1 t2 adK adV) D g [.ref (adK i)] [] (fun rv w1 => rv = some (.int 0) ∧ w1 = []) := by
  refine s_start RJ0 (by decide) rfl (Nat.le_of_ble_eq_true rfl) ?_
  intro p0 e0 s0 m0 args below meth c0 A ls Q hQ hx hb hr hlk hml hown hT hK hA hE hw hl
  have hl : lv_has ls 1 [(0, .ref (adK i))] := hl
  refine va_gets hx hb hE.1 hw.2.2 hown (hT _ zf_J0_38) (fun _ h9 => h9) dJ0_coder_7d493_0 ?_
  refine lv_if_eq (tgt := 13) hx hb dJ0_coder_7d493_3 (by decide) (fun h1 => absurd h1 (by decide)) (fun _ => ?_)
  refine lv_aload_n hx hb dJ0_coder_7d493_6 rfl (lv_at hl 0 rfl) ?_
  refine vk_getf hx hb (hE.2.2.2.2.1.1 i hi7).2.1 hw.2.2 hown (hT _ zf_J0_15) (fun _ h9 => h9) dJ0_coder_7d493_7 ?_
  refine lv_goto (tgt := 14) hx hb dJ0_coder_7d493_10 (by decide) ?_
  exact s_zret (ty := .byte) hQ hx hb hr rfl hlk ⟨Nat.le_of_ble_eq_true rfl, Nat.le_of_ble_eq_true rfl⟩ hw (⟨rfl, rfl⟩) dJ0_coder_7d493_14
set_option maxRecDepth 100000 in
set_option maxHeartbeats 4000000 in
theorem j_slen (l : Launch) (D : va_G) (g : Nat → ClassId) (t1 t2 : Nat) (adK adV : Nat → Nat) (i : Nat) (hi7 : i < 7) : s_Ct l yJ0_length_8abf5 cJ0_length_8abf5 1 (some .int) 1 0 0 20 (e_St t1 t2 adK adV) D g [.ref (adK i)] [] (fun rv w1 => rv = some (.int (nI (sLen.getD i 0))) ∧ w1 = []) := by
  refine s_start RJ0 (by decide) rfl (Nat.le_of_ble_eq_true rfl) ?_
  intro p0 e0 s0 m0 args below meth c0 A ls Q hQ hx hb hr hlk hml hown hT hK hA hE hw hl
  have hl : lv_has ls 1 [(0, .ref (adK i))] := hl
  refine lv_aload_n hx hb dJ0_length_8abf5_0 rfl (lv_at hl 0 rfl) ?_
  refine vk_getf hx hb (hE.2.2.2.2.1.1 i hi7).2.2.1 hw.2.2 hown (hT _ zf_J0_9) (fun _ h9 => h9) dJ0_length_8abf5_1 ?_
  refine va_tlen hx hb (hE.2.2.2.2.1.1 i hi7).2.2.2 hw.2.2 (v := nI (sLen.getD i 0)) rfl dJ0_length_8abf5_4 ?_
  refine lv_aload_n hx hb dJ0_length_8abf5_5 rfl (lv_at hl 0 rfl) ?_
  refine s_callV (C := RJ0) hx hb hml hown hT hK hA e_ok hE hw zk_J0_335 zn_J0_coder_7d493 (hT _ zl_J0_coder_7d493) (j_coder l D g t1 t2 adK adV i hi7) [] [] rfl (by decide) (wr := []) rfl (by decide) (by decide) (vk_recv hE.2.2.2.2.1 hi7 hw.2.2) rfl hl.1 [.int (nI (sLen.getD i 0))] rfl (Nat.le_of_ble_eq_true rfl) ⟨Nat.le_of_ble_eq_true rfl, Nat.le_of_ble_eq_true rfl⟩ ⟨Nat.le_of_ble_eq_true rfl, Nat.le_of_ble_eq_true rfl⟩ dJ0_length_8abf5_6 (fun rv w1 H locs hp hw => ?_)
  obtain ⟨rfl, rfl⟩ := hp
  have hw : g_Wd D A s0.heap _ _ [] := hw
  refine s_ishr0 hx hb dJ0_length_8abf5_9 ?_
  exact s_iret hQ hx hb hr hlk ⟨Nat.le_of_ble_eq_true rfl, Nat.le_of_ble_eq_true rfl⟩ hw (⟨rfl, rfl⟩) dJ0_length_8abf5_10
set_option maxRecDepth 100000 in
set_option maxHeartbeats 4000000 in
theorem j_getBytes (l : Launch) (D : va_G) (g : Nat → ClassId) (t1 t2 : Nat) (adK adV : Nat → Nat) (v m : Nat) (f : Nat → Int32) (n i : Nat) (hi7 : i < 7) (h8 : n + sLen.getD i 0 ≤ m) (hm : m ≤ 130) : s_Ct l yJ0_getBytes_840e7 cJ0_getBytes_840e7 4 none 1 0 0 40 (e_St t1 t2 adK adV) D g [.ref (adK i), .ref v, .int (nI n), .int 0] [(v, .inl (g 4, m, .inl f))] (fun rv w1 => rv = none ∧ w1 = [(v, .inl (g 4, m, .inl (va_cpy (fun j => (sByt.getD i []).getD j 0) f 0 n (sLen.getD i 0))))]) := by
  refine s_start RJ0 (by decide) rfl (Nat.le_of_ble_eq_true rfl) ?_
  intro p0 e0 s0 m0 args below meth c0 A ls Q hQ hx hb hr hlk hml hown hT hK hA hE hw hl
  have hl : lv_has ls 4 [(0, .ref (adK i)), (1, .ref v), (2, .int (nI n)), (3, .int 0)] := hl
  refine lv_aload_n hx hb dJ0_getBytes_840e7_0 rfl (lv_at hl 0 rfl) ?_
  refine s_callV (C := RJ0) hx hb hml hown hT hK hA e_ok hE hw zk_J0_335 zn_J0_coder_7d493 (hT _ zl_J0_coder_7d493) (j_coder l D g t1 t2 adK adV i hi7) [] [0] rfl (by decide) (wr := [(v, .inl (g 4, m, .inl f))]) rfl (by decide) (by decide) (vk_recv hE.2.2.2.2.1 hi7 hw.2.2) rfl hl.1 [] rfl (Nat.le_of_ble_eq_true rfl) ⟨Nat.le_of_ble_eq_true rfl, Nat.le_of_ble_eq_true rfl⟩ ⟨Nat.le_of_ble_eq_true rfl, Nat.le_of_ble_eq_true rfl⟩ dJ0_getBytes_840e7_1 (fun rv w1 H locs hp hw => ?_)
  obtain ⟨rfl, rfl⟩ := hp
  have hw : g_Wd D A s0.heap _ _ [(v, .inl (g 4, m, .inl f))] := hw
  refine lv_iload_n hx hb dJ0_getBytes_840e7_4 rfl (lv_at hl 3 rfl) ?_
  refine lv_icmp_ne (tgt := 28) hx hb dJ0_getBytes_840e7_5 (by decide) (fun h1 => absurd (rfl) h1) (fun _ => ?_)
  refine lv_aload_n hx hb dJ0_getBytes_840e7_8 rfl (lv_at hl 0 rfl) ?_
  refine vk_getf hx hb (hE.2.2.2.2.1.1 i hi7).2.2.1 hw.2.2 hown (hT _ zf_J0_9) (fun _ h9 => h9) dJ0_getBytes_840e7_9 ?_
  refine lv_iconst (v := 0) hx hb dJ0_getBytes_840e7_12 (by decide) ?_
  refine lv_aload_n hx hb dJ0_getBytes_840e7_13 rfl (lv_at hl 1 rfl) ?_
  refine lv_iload_n hx hb dJ0_getBytes_840e7_14 rfl (lv_at hl 2 rfl) ?_
  refine lv_iload_n hx hb dJ0_getBytes_840e7_15 rfl (lv_at hl 3 rfl) ?_
  refine s_ishl0 hx hb dJ0_getBytes_840e7_16 ?_
  refine lv_aload_n hx hb dJ0_getBytes_840e7_17 rfl (lv_at hl 0 rfl) ?_
  refine vk_getf hx hb (hE.2.2.2.2.1.1 i hi7).2.2.1 hw.2.2 hown (hT _ zf_J0_9) (fun _ h9 => h9) dJ0_getBytes_840e7_18 ?_
  refine va_tlen hx hb (hE.2.2.2.2.1.1 i hi7).2.2.2 hw.2.2 (v := nI (sLen.getD i 0)) rfl dJ0_getBytes_840e7_21 ?_
  refine vk_copyt hx hb (hml.trans hl.1.symm) hown (hT _ za_J0_212) (hT _ za_nat) (hT _ za_st) (hT _ za_ini) hK hw.1 hw.2.1 hw.2.2 (hE.2.2.2.2.1.1 i hi7).2.2.2 0 4 rfl rfl (by decide) (j_cpok h8 hm).1 (j_cpok h8 hm).2.1 (j_cpok h8 hm).2.2.1 (j_cpok h8 hm).2.2.2 (fun j _ => (s_byt hi7).1 _) (Nat.le_of_ble_eq_true rfl) (Nat.le_of_ble_eq_true rfl) dJ0_getBytes_840e7_22 (fun H locs a1 a2 a3 => ?_)
  rw [j_cpyN h8 hm] at a1 a2
  have hw : g_Wd D A s0.heap H locs [(v, .inl (g 4, m, .inl (va_cpy (fun j => (sByt.getD i []).getD j 0) f 0 n (sLen.getD i 0))))] := ⟨a1, a2, a3⟩
  refine lv_goto (tgt := 43) hx hb dJ0_getBytes_840e7_25 (by decide) ?_
  exact s_vret hQ hx hb hr hlk ⟨Nat.le_of_ble_eq_true rfl, Nat.le_of_ble_eq_true rfl⟩ hw (⟨rfl, rfl⟩) dJ0_getBytes_840e7_43
set_option maxRecDepth 100000 in
set_option maxHeartbeats 4000000 in
theorem j_inflNeed (l : Launch) (D : va_G) (g : Nat → ClassId) (t1 t2 : Nat) (adK adV : Nat → Nat) (o v : Nat) (ml n : Int32) (i : Nat) (hi7 : i < 7) : s_Ct l yJ5_inflateIfNeededFor_a7421 cJ5_inflateIfNeededFor_a7421 2 none 1 0 0 20 (e_St t1 t2 adK adV) D g [.ref o, .ref (adK i)] [(o, .inr (0, [.ref v, .int 0, .int ml, .int n]))] (fun rv w1 => rv = none ∧ w1 = [(o, .inr (0, [.ref v, .int 0, .int ml, .int n]))]) := by
  refine s_start RJ5 (by decide) rfl (Nat.le_of_ble_eq_true rfl) ?_
  intro p0 e0 s0 m0 args below meth c0 A ls Q hQ hx hb hr hlk hml hown hT hK hA hE hw hl
  have hl : lv_has ls 2 [(0, .ref o), (1, .ref (adK i))] := hl
  refine va_gets hx hb hE.1 hw.2.2 hown (hT _ zf_J5_18) (fun _ h9 => h9) dJ5_inflateIfNeededFor_a7421_0 ?_
  refine lv_if_eq (tgt := 21) hx hb dJ5_inflateIfNeededFor_a7421_3 (by decide) (fun h1 => absurd h1 (by decide)) (fun _ => ?_)
  refine lv_aload_n hx hb dJ5_inflateIfNeededFor_a7421_6 rfl (lv_at hl 0 rfl) ?_
  refine s_get hx hb hT hK hown (k := 1) (by decide) zf_J5_22 hw 0 rfl (v := .int 0) rfl dJ5_inflateIfNeededFor_a7421_7 ?_
  refine lv_aload_n hx hb dJ5_inflateIfNeededFor_a7421_10 rfl (lv_at hl 1 rfl) ?_
  refine s_callV (C := RJ0) hx hb hml hown hT hK hA e_ok hE hw zk_J5_40 zn_J0_coder_7d493 (hT _ zl_J0_coder_7d493) (j_coder l D g t1 t2 adK adV i hi7) [] [0] rfl (by decide) (wr := [(o, .inr (0, [.ref v, .int 0, .int ml, .int n]))]) rfl (by decide) (by decide) (vk_recv hE.2.2.2.2.1 hi7 hw.2.2) rfl hl.1 [.int 0] rfl (Nat.le_of_ble_eq_true rfl) ⟨Nat.le_of_ble_eq_true rfl, Nat.le_of_ble_eq_true rfl⟩ ⟨Nat.le_of_ble_eq_true rfl, Nat.le_of_ble_eq_true rfl⟩ dJ5_inflateIfNeededFor_a7421_11 (fun rv w1 H locs hp hw => ?_)
  obtain ⟨rfl, rfl⟩ := hp
  have hw : g_Wd D A s0.heap _ _ [(o, .inr (0, [.ref v, .int 0, .int ml, .int n]))] := hw
  refine lv_icmp_eq (tgt := 21) hx hb dJ5_inflateIfNeededFor_a7421_14 (by decide) (fun _ => ?_) (fun h1 => absurd (rfl) h1)
  exact s_vret hQ hx hb hr hlk ⟨Nat.le_of_ble_eq_true rfl, Nat.le_of_ble_eq_true rfl⟩ hw (⟨rfl, rfl⟩) dJ5_inflateIfNeededFor_a7421_21
set_option maxRecDepth 100000 in
set_option maxHeartbeats 4000000 in
theorem j_putStr (l : Launch) (D : va_G) (g : Nat → ClassId) (t1 t2 : Nat) (adK adV : Nat → Nat) (o v : Nat) (ml n : Int32) (m : Nat) (f : Nat → Int32) (k i : Nat) (hi7 : i < 7) (h8 : k + sLen.getD i 0 ≤ m) (hm : m ≤ 130) : s_Ct l yJ5_putStringAt_47b60 cJ5_putStringAt_47b60 3 none 2 0 0 63 (e_St t1 t2 adK adV) D g [.ref o, .int (nI k), .ref (adK i)] [(o, .inr (0, [.ref v, .int 0, .int ml, .int n])), (v, .inl (g 4, m, .inl f))] (fun rv w1 => rv = none ∧ w1 = [(o, .inr (0, [.ref v, .int 0, .int ml, .int n])), (v, .inl (g 4, m, .inl (va_cpy (fun j => (sByt.getD i []).getD j 0) f 0 k (sLen.getD i 0))))]) := by
  refine s_start RJ5 (by decide) rfl (Nat.le_of_ble_eq_true rfl) ?_
  intro p0 e0 s0 m0 args below meth c0 A ls Q hQ hx hb hr hlk hml hown hT hK hA hE hw hl
  have hl : lv_has ls 3 [(0, .ref o), (1, .int (nI k)), (2, .ref (adK i))] := hl
  refine lv_aload_n hx hb dJ5_putStringAt_47b60_0 rfl (lv_at hl 0 rfl) ?_
  refine lv_aload_n hx hb dJ5_putStringAt_47b60_1 rfl (lv_at hl 2 rfl) ?_
  refine s_callV (C := RJ4) hx hb hml hown hT hK hA e_ok hE hw zk_J5_397 zn_J5_inflateIfNeededFor_a7421 (e_sel hE 3 rfl) (j_inflNeed l D g t1 t2 adK adV o v ml n i hi7) [0] [1] rfl (by decide) (wr := [(v, .inl (g 4, m, .inl f))]) rfl (by decide) (by decide) (va_recv hK hw.1 (q := (RJ4, TJ4, 4)) (q0 := 0) rfl rfl) rfl hl.1 [] rfl (Nat.le_of_ble_eq_true rfl) ⟨Nat.le_of_ble_eq_true rfl, Nat.le_of_ble_eq_true rfl⟩ ⟨Nat.le_of_ble_eq_true rfl, Nat.le_of_ble_eq_true rfl⟩ dJ5_putStringAt_47b60_2 (fun rv w1 H locs hp hw => ?_)
  obtain ⟨rfl, rfl⟩ := hp
  have hw : g_Wd D A s0.heap _ _ [(v, .inl (g 4, m, .inl f)), (o, .inr (0, [.ref v, .int 0, .int ml, .int n]))] := hw
  refine lv_aload_n hx hb dJ5_putStringAt_47b60_5 rfl (lv_at hl 2 rfl) ?_
  refine lv_aload_n hx hb dJ5_putStringAt_47b60_6 rfl (lv_at hl 0 rfl) ?_
  refine s_get hx hb hT hK hown (k := 0) (by decide) zf_J5_15 hw 1 rfl (v := .ref v) rfl dJ5_putStringAt_47b60_7 ?_
  refine lv_iload_n hx hb dJ5_putStringAt_47b60_10 rfl (lv_at hl 1 rfl) ?_
  refine lv_aload_n hx hb dJ5_putStringAt_47b60_11 rfl (lv_at hl 0 rfl) ?_
  refine s_get hx hb hT hK hown (k := 1) (by decide) zf_J5_22 hw 1 rfl (v := .int 0) rfl dJ5_putStringAt_47b60_12 ?_
  refine s_callV (C := RJ0) hx hb hml hown hT hK hA e_ok hE hw zk_J5_399 zn_J0_getBytes_840e7 (hT _ zl_J0_getBytes_840e7) (j_getBytes l D g t1 t2 adK adV v m f k i hi7 h8 hm) [0] [1] rfl (by decide) (wr := [(o, .inr (0, [.ref v, .int 0, .int ml, .int n]))]) rfl (by decide) (by decide) (vk_recv hE.2.2.2.2.1 hi7 hw.2.2) rfl hl.1 [] rfl (Nat.le_of_ble_eq_true rfl) ⟨Nat.le_of_ble_eq_true rfl, Nat.le_of_ble_eq_true rfl⟩ ⟨Nat.le_of_ble_eq_true rfl, Nat.le_of_ble_eq_true rfl⟩ dJ5_putStringAt_47b60_15 (fun rv w1 H locs hp hw => ?_)
  obtain ⟨rfl, rfl⟩ := hp
  have hw : g_Wd D A s0.heap _ _ [(o, .inr (0, [.ref v, .int 0, .int ml, .int n])), (v, .inl (g 4, m, .inl (va_cpy (fun j => (sByt.getD i []).getD j 0) f 0 k (sLen.getD i 0))))] := hw
  exact s_vret hQ hx hb hr hlk ⟨Nat.le_of_ble_eq_true rfl, Nat.le_of_ble_eq_true rfl⟩ hw (⟨rfl, rfl⟩) dJ5_putStringAt_47b60_18
set_option maxRecDepth 100000 in
set_option maxHeartbeats 4000000 in
theorem j_appS (l : Launch) (D : va_G) (g : Nat → ClassId) (t1 t2 : Nat) (adK adV : Nat → Nat) (o v : Nat) (ml : Int32) (m : Nat) (f : Nat → Int32) (t : List Nat) (i : Nat) (ht : sbT t m f) (hi7 : i < 7) (hl6 : t.length + sLen.getD i 0 ≤ 64) : s_Ct l yJ5_append_cf1ce cJ5_append_cf1ce 3 (some (.object "java/lang/AbstractStringBuilder")) 4 1 130 85 (e_St t1 t2 adK adV) D g [.ref o, .ref (adK i)] [(o, .inr (0, [.ref v, .int 0, .int ml, .int (nI t.length)])), (v, .inl (g 4, m, .inl f))] (fun rv w1 => ∃ (v2 m2 : Nat) (f2 : Nat → Int32), (rv = some (.ref o) ∧ sbT (t ++ sNat.getD i []) m2 f2) ∧ w1 = [(o, .inr (0, [.ref v2, .int 0, .int ml, .int (nI (t ++ sNat.getD i []).length)])), (v2, .inl (g 4, m2, .inl f2))]) := by
  refine s_start RJ5 (by decide) rfl (Nat.le_of_ble_eq_true rfl) ?_
  intro p0 e0 s0 m0 args below meth c0 A ls Q hQ hx hb hr hlk hml hown hT hK hA hE hw hl
  have hl : lv_has ls 3 [(0, .ref o), (1, .ref (adK i))] := hl
  refine lv_aload_n hx hb dJ5_append_cf1ce_0 rfl (lv_at hl 1 rfl) ?_
  refine lv_ifnonnull (tgt := 9) hx hb dJ5_append_cf1ce_1 (by decide) ?_
  refine lv_aload_n hx hb dJ5_append_cf1ce_9 rfl (lv_at hl 1 rfl) ?_
  refine s_callV (C := RJ0) hx hb hml hown hT hK hA e_ok hE hw zk_J5_32 zn_J0_length_8abf5 (hT _ zl_J0_length_8abf5) (j_slen l D g t1 t2 adK adV i hi7) [] [0, 1] rfl (by decide) (wr := [(o, .inr (0, [.ref v, .int 0, .int ml, .int (nI t.length)])), (v, .inl (g 4, m, .inl f))]) rfl (by decide) (by decide) (vk_recv hE.2.2.2.2.1 hi7 hw.2.2) rfl hl.1 [] rfl (Nat.le_of_ble_eq_true rfl) ⟨Nat.le_of_ble_eq_true rfl, Nat.le_of_ble_eq_true rfl⟩ ⟨Nat.le_of_ble_eq_true rfl, Nat.le_of_ble_eq_true rfl⟩ dJ5_append_cf1ce_10 (fun rv w1 H locs hp hw => ?_)
  obtain ⟨rfl, rfl⟩ := hp
  have hw : g_Wd D A s0.heap _ _ [(o, .inr (0, [.ref v, .int 0, .int ml, .int (nI t.length)])), (v, .inl (g 4, m, .inl f))] := hw
  refine lv_istore_n (lv' := [(2, .int (nI (sLen.getD i 0))), (0, .ref o), (1, .ref (adK i))]) hx hb dJ5_append_cf1ce_13 rfl hl (by decide) rfl (fun ls hl => ?_)
  refine lv_aload_n hx hb dJ5_append_cf1ce_14 rfl (lv_at hl 1 rfl) ?_
  refine lv_aload_n hx hb dJ5_append_cf1ce_15 rfl (lv_at hl 1 rfl) ?_
  refine s_get hx hb hT hK hown (k := 3) (by decide) zf_J5_79 hw 0 rfl (v := .int (nI t.length)) rfl dJ5_append_cf1ce_16 ?_
  refine lv_iload_n hx hb dJ5_append_cf1ce_19 rfl (lv_at hl 0 rfl) ?_
  refine s_iadd (z := (nI (t.length + sLen.getD i 0))) hx hb dJ5_append_cf1ce_20 (nI_add _ _) ?_
  refine s_callV (C := RJ4) hx hb hml hown hT hK hA e_ok hE hw zk_J5_100 zn_J5_ensureCapacityInternal_d00df (e_sel hE 0 rfl) (j_ens l D g t1 t2 adK adV o v ml (nI t.length) m f (t.length + sLen.getD i 0) (hl6) ht.2.1 ht.2.2.1) [0, 1] [] rfl (by decide) (wr := []) rfl (by decide) (by decide) (va_recv hK hw.1 (q := (RJ4, TJ4, 4)) (q0 := 0) rfl rfl) rfl hl.1 [] rfl (Nat.le_of_ble_eq_true rfl) ⟨Nat.le_of_ble_eq_true rfl, Nat.le_of_ble_eq_true rfl⟩ ⟨Nat.le_of_ble_eq_true rfl, Nat.le_of_ble_eq_true rfl⟩ dJ5_append_cf1ce_21 (fun rv w1 H locs hp hw => ?_)
  obtain ⟨v2, m2, f2, ⟨rfl, hm2, hf2, hj2⟩, rfl⟩ := hp
  have hw : g_Wd D A s0.heap _ _ [(o, .inr (0, [.ref v2, .int 0, .int ml, .int (nI t.length)])), (v2, .inl (g 4, m2, .inl f2))] := hw
  have ht2 := sbT_keep ht hm2.2 hf2 hj2
  refine lv_aload_n hx hb dJ5_append_cf1ce_24 rfl (lv_at hl 1 rfl) ?_
  refine lv_aload_n hx hb dJ5_append_cf1ce_25 rfl (lv_at hl 1 rfl) ?_
  refine s_get hx hb hT hK hown (k := 3) (by decide) zf_J5_79 hw 0 rfl (v := .int (nI t.length)) rfl dJ5_append_cf1ce_26 ?_
  refine lv_aload_n hx hb dJ5_append_cf1ce_29 rfl (lv_at hl 2 rfl) ?_
  refine s_callV (C := RJ4) hx hb hml hown hT hK hA e_ok hE hw zk_J5_208 zn_J5_putStringAt_47b60 (e_sel hE 2 rfl) (j_putStr l D g t1 t2 adK adV o v2 ml (nI t.length) m2 f2 t.length i hi7 hm2.1 ht2.2.1) [0, 1] [] rfl (by decide) (wr := []) rfl (by decide) (by decide) (va_recv hK hw.1 (q := (RJ4, TJ4, 4)) (q0 := 0) rfl rfl) rfl hl.1 [] rfl (Nat.le_of_ble_eq_true rfl) ⟨Nat.le_of_ble_eq_true rfl, Nat.le_of_ble_eq_true rfl⟩ ⟨Nat.le_of_ble_eq_true rfl, Nat.le_of_ble_eq_true rfl⟩ dJ5_append_cf1ce_30 (fun rv w1 H locs hp hw => ?_)
  obtain ⟨rfl, rfl⟩ := hp
  have hw : g_Wd D A s0.heap _ _ [(o, .inr (0, [.ref v2, .int 0, .int ml, .int (nI t.length)])), (v2, .inl (g 4, m2, .inl (va_cpy (fun j => (sByt.getD i []).getD j 0) f2 0 t.length (sLen.getD i 0))))] := hw
  refine lv_aload_n hx hb dJ5_append_cf1ce_33 rfl (lv_at hl 1 rfl) ?_
  refine lv_dup hx hb dJ5_append_cf1ce_34 rfl ?_
  refine s_get hx hb hT hK hown (k := 3) (by decide) zf_J5_79 hw 0 rfl (v := .int (nI t.length)) rfl dJ5_append_cf1ce_35 ?_
  refine lv_iload_n hx hb dJ5_append_cf1ce_38 rfl (lv_at hl 0 rfl) ?_
  refine s_iadd (z := (nI (t.length + sLen.getD i 0))) hx hb dJ5_append_cf1ce_39 (nI_add _ _) ?_
  refine s_put hx hb hT hK hown (k := 3) (by decide) zf_J5_79 hw 0 rfl rfl rfl rfl (Nat.le_of_ble_eq_true rfl) (ws' := [(o, .inr (0, [.ref v2, .int 0, .int ml, .int (nI (t.length + sLen.getD i 0))])), (v2, .inl (g 4, m2, .inl (va_cpy (fun j => (sByt.getD i []).getD j 0) f2 0 t.length (sLen.getD i 0))))]) rfl dJ5_append_cf1ce_40 (fun H locs hw => ?_)
  refine lv_aload_n hx hb dJ5_append_cf1ce_43 rfl (lv_at hl 1 rfl) ?_
  exact s_aret hQ hx hb hr (Or.inl ⟨_, rfl⟩) hlk ⟨Nat.le_of_ble_eq_true rfl, Nat.le_of_ble_eq_true rfl⟩ hw (⟨v2, m2, _, ⟨rfl, j_str hi7 ht2 hm2.1⟩, by rw [List.length_append, ← (s_allK i hi7).1]⟩) dJ5_append_cf1ce_44
set_option maxRecDepth 100000 in
set_option maxHeartbeats 4000000 in
theorem j_len (l : Launch) (D : va_G) (g : Nat → ClassId) (t1 t2 : Nat) (adK adV : Nat → Nat) (o v : Nat) (ml n : Int32) : s_Ct l yJ5_length_8abf5 cJ5_length_8abf5 1 (some .int) 0 0 0 0 (e_St t1 t2 adK adV) D g [.ref o] [(o, .inr (0, [.ref v, .int 0, .int ml, .int n]))] (fun rv w1 => rv = some (.int n) ∧ w1 = [(o, .inr (0, [.ref v, .int 0, .int ml, .int n]))]) := by
  refine s_start RJ5 (by decide) rfl (Nat.le_of_ble_eq_true rfl) ?_
  intro p0 e0 s0 m0 args below meth c0 A ls Q hQ hx hb hr hlk hml hown hT hK hA hE hw hl
  have hl : lv_has ls 1 [(0, .ref o)] := hl
  refine lv_aload_n hx hb dJ5_length_8abf5_0 rfl (lv_at hl 0 rfl) ?_
  refine s_get hx hb hT hK hown (k := 3) (by decide) zf_J5_79 hw 0 rfl (v := .int n) rfl dJ5_length_8abf5_1 ?_
  exact s_iret hQ hx hb hr hlk ⟨Nat.le_of_ble_eq_true rfl, Nat.le_of_ble_eq_true rfl⟩ hw (⟨rfl, rfl⟩) dJ5_length_8abf5_4
set_option maxRecDepth 100000 in
set_option maxHeartbeats 4000000 in
theorem j_pchkN (l : Launch) (D : va_G) (g : Nat → ClassId) (t1 t2 : Nat) (adK adV : Nat → Nat) (j n : Nat) (hji : j < n) (hn : n ≤ 130) : s_Ct l yJ3_checkIndex_8e157 cJ3_checkIndex_8e157 3 (some .int) 0 0 0 0 (e_St t1 t2 adK adV) D g [.int (nI j), .int (nI n), .null] [] (fun rv w1 => rv = some (.int (nI j)) ∧ w1 = []) := by
  refine s_start RJ3 (by decide) rfl (Nat.le_of_ble_eq_true rfl) ?_
  intro p0 e0 s0 m0 args below meth c0 A ls Q hQ hx hb hr hlk hml hown hT hK hA hE hw hl
  have hl : lv_has ls 3 [(0, .int (nI j)), (1, .int (nI n)), (2, .null)] := hl
  refine lv_iload_n hx hb dJ3_checkIndex_8e157_0 rfl (lv_at hl 0 rfl) ?_
  refine lv_if_lt (tgt := 9) hx hb dJ3_checkIndex_8e157_1 (by decide) (fun h1 => absurd h1 (nI_pos (by omega))) (fun _ => ?_)
  refine lv_iload_n hx hb dJ3_checkIndex_8e157_4 rfl (lv_at hl 0 rfl) ?_
  refine lv_iload_n hx hb dJ3_checkIndex_8e157_5 rfl (lv_at hl 1 rfl) ?_
  refine lv_icmp_lt (tgt := 16) hx hb dJ3_checkIndex_8e157_6 (by decide) (fun _ => ?_) (fun h1 => absurd (nI_lt hji (by omega)) h1)
  refine lv_iload_n hx hb dJ3_checkIndex_8e157_16 rfl (lv_at hl 0 rfl) ?_
  exact s_iret hQ hx hb hr hlk ⟨Nat.le_of_ble_eq_true rfl, Nat.le_of_ble_eq_true rfl⟩ hw (⟨rfl, rfl⟩) dJ3_checkIndex_8e157_17
set_option maxRecDepth 100000 in
set_option maxHeartbeats 4000000 in
theorem j_pchkR (l : Launch) (D : va_G) (g : Nat → ClassId) (t1 t2 : Nat) (adK adV : Nat → Nat) (j n : Nat) (tf : Nat) (hji : j < n) (hn : n ≤ 130) : s_Ct l yJ3_checkIndex_8e157 cJ3_checkIndex_8e157 3 (some .int) 0 0 0 0 (e_St t1 t2 adK adV) D g [.int (nI j), .int (nI n), .ref tf] [] (fun rv w1 => rv = some (.int (nI j)) ∧ w1 = []) := by
  refine s_start RJ3 (by decide) rfl (Nat.le_of_ble_eq_true rfl) ?_
  intro p0 e0 s0 m0 args below meth c0 A ls Q hQ hx hb hr hlk hml hown hT hK hA hE hw hl
  have hl : lv_has ls 3 [(0, .int (nI j)), (1, .int (nI n)), (2, .ref tf)] := hl
  refine lv_iload_n hx hb dJ3_checkIndex_8e157_0 rfl (lv_at hl 0 rfl) ?_
  refine lv_if_lt (tgt := 9) hx hb dJ3_checkIndex_8e157_1 (by decide) (fun h1 => absurd h1 (nI_pos (by omega))) (fun _ => ?_)
  refine lv_iload_n hx hb dJ3_checkIndex_8e157_4 rfl (lv_at hl 0 rfl) ?_
  refine lv_iload_n hx hb dJ3_checkIndex_8e157_5 rfl (lv_at hl 1 rfl) ?_
  refine lv_icmp_lt (tgt := 16) hx hb dJ3_checkIndex_8e157_6 (by decide) (fun _ => ?_) (fun h1 => absurd (nI_lt hji (by omega)) h1)
  refine lv_iload_n hx hb dJ3_checkIndex_8e157_16 rfl (lv_at hl 0 rfl) ?_
  exact s_iret hQ hx hb hr hlk ⟨Nat.le_of_ble_eq_true rfl, Nat.le_of_ble_eq_true rfl⟩ hw (⟨rfl, rfl⟩) dJ3_checkIndex_8e157_17
set_option maxRecDepth 100000 in
set_option maxHeartbeats 4000000 in
theorem j_schk (l : Launch) (D : va_G) (g : Nat → ClassId) (t1 t2 : Nat) (adK adV : Nat → Nat) (j n : Nat) (hji : j < n) (hn : n ≤ 130) : s_Ct l yJ0_checkIndex_df160 cJ0_checkIndex_df160 2 none 1 0 0 22 (e_St t1 t2 adK adV) D g [.int (nI j), .int (nI n)] [] (fun rv w1 => rv = none ∧ w1 = []) := by
  refine s_start RJ0 (by decide) rfl (Nat.le_of_ble_eq_true rfl) ?_
  intro p0 e0 s0 m0 args below meth c0 A ls Q hQ hx hb hr hlk hml hown hT hK hA hE hw hl
  have hl : lv_has ls 2 [(0, .int (nI j)), (1, .int (nI n))] := hl
  refine lv_iload_n hx hb dJ0_checkIndex_df160_0 rfl (lv_at hl 0 rfl) ?_
  refine lv_iload_n hx hb dJ0_checkIndex_df160_1 rfl (lv_at hl 1 rfl) ?_
  rcases hE.2.2.2.1 with hz | ⟨tf, hz⟩
  · have _ := hK
    refine va_gets hx hb hz hw.2.2 hown (hT _ zf_J0_1053) (fun _ h9 => h9) dJ0_checkIndex_df160_2 ?_
    refine s_callS hx hb hml hown hT hK hA e_ok hE hw zk_J0_1059 (j_pchkN l D g t1 t2 adK adV j n hji hn) [] [] rfl (by decide) (wr := []) rfl (by decide) (by decide) rfl hl.1 [] rfl (Nat.le_of_ble_eq_true rfl) ⟨Nat.le_of_ble_eq_true rfl, Nat.le_of_ble_eq_true rfl⟩ ⟨Nat.le_of_ble_eq_true rfl, Nat.le_of_ble_eq_true rfl⟩ dJ0_checkIndex_df160_5 (fun rv w1 H locs hp hw => ?_)
    obtain ⟨rfl, rfl⟩ := hp
    have hw : g_Wd D A s0.heap _ _ [] := hw
    refine lv_pop hx hb dJ0_checkIndex_df160_8 rfl ?_
    exact s_vret hQ hx hb hr hlk ⟨Nat.le_of_ble_eq_true rfl, Nat.le_of_ble_eq_true rfl⟩ hw (⟨rfl, rfl⟩) dJ0_checkIndex_df160_9
  · have _ := hK
    refine va_gets hx hb hz hw.2.2 hown (hT _ zf_J0_1053) (fun _ h9 => h9) dJ0_checkIndex_df160_2 ?_
    refine s_callS hx hb hml hown hT hK hA e_ok hE hw zk_J0_1059 (j_pchkR l D g t1 t2 adK adV j n tf hji hn) [] [] rfl (by decide) (wr := []) rfl (by decide) (by decide) rfl hl.1 [] rfl (Nat.le_of_ble_eq_true rfl) ⟨Nat.le_of_ble_eq_true rfl, Nat.le_of_ble_eq_true rfl⟩ ⟨Nat.le_of_ble_eq_true rfl, Nat.le_of_ble_eq_true rfl⟩ dJ0_checkIndex_df160_5 (fun rv w1 H locs hp hw => ?_)
    obtain ⟨rfl, rfl⟩ := hp
    have hw : g_Wd D A s0.heap _ _ [] := hw
    refine lv_pop hx hb dJ0_checkIndex_df160_8 rfl ?_
    exact s_vret hQ hx hb hr hlk ⟨Nat.le_of_ble_eq_true rfl, Nat.le_of_ble_eq_true rfl⟩ hw (⟨rfl, rfl⟩) dJ0_checkIndex_df160_9
set_option maxRecDepth 100000 in
set_option maxHeartbeats 4000000 in
theorem j_charAt (l : Launch) (D : va_G) (g : Nat → ClassId) (t1 t2 : Nat) (adK adV : Nat → Nat) (o v : Nat) (ml : Int32) (m : Nat) (f : Nat → Int32) (t : List Nat) (j x : Nat) (ht : sbT t m f) (hj : t[j]? = some x) : s_Ct l yJ5_charAt_5068e cJ5_charAt_5068e 5 (some .char) 2 0 0 43 (e_St t1 t2 adK adV) D g [.ref o, .int (nI j)] [(o, .inr (0, [.ref v, .int 0, .int ml, .int (nI t.length)])), (v, .inl (g 4, m, .inl f))] (fun rv w1 => rv = some (.int (nI x)) ∧ w1 = [(o, .inr (0, [.ref v, .int 0, .int ml, .int (nI t.length)])), (v, .inl (g 4, m, .inl f))]) := by
  refine s_start RJ5 (by decide) rfl (Nat.le_of_ble_eq_true rfl) ?_
  intro p0 e0 s0 m0 args below meth c0 A ls Q hQ hx hb hr hlk hml hown hT hK hA hE hw hl
  have hl : lv_has ls 5 [(0, .ref o), (1, .int (nI j))] := hl
  refine lv_aload_n hx hb dJ5_charAt_5068e_0 rfl (lv_at hl 0 rfl) ?_
  refine s_get hx hb hT hK hown (k := 1) (by decide) zf_J5_22 hw 0 rfl (v := .int 0) rfl dJ5_charAt_5068e_1 ?_
  refine lv_istore_n (lv' := [(2, .int 0), (0, .ref o), (1, .int (nI j))]) hx hb dJ5_charAt_5068e_4 rfl hl (by decide) rfl (fun ls hl => ?_)
  refine lv_aload_n hx hb dJ5_charAt_5068e_5 rfl (lv_at hl 1 rfl) ?_
  refine s_get hx hb hT hK hown (k := 0) (by decide) zf_J5_15 hw 0 rfl (v := .ref v) rfl dJ5_charAt_5068e_6 ?_
  refine lv_astore_n (lv' := [(3, .ref v), (2, .int 0), (0, .ref o), (1, .int (nI j))]) hx hb dJ5_charAt_5068e_9 rfl hl (by decide) rfl (fun ls hl => ?_)
  refine lv_aload_n hx hb dJ5_charAt_5068e_10 rfl (lv_at hl 2 rfl) ?_
  refine s_get hx hb hT hK hown (k := 3) (by decide) zf_J5_79 hw 0 rfl (v := .int (nI t.length)) rfl dJ5_charAt_5068e_11 ?_
  refine lv_aload_n hx hb dJ5_charAt_5068e_14 rfl (lv_at hl 0 rfl) ?_
  refine va_alen hx hb hK hw.1 1 4 rfl rfl (v := nI m) rfl dJ5_charAt_5068e_15 ?_
  refine lv_iload_n hx hb dJ5_charAt_5068e_16 rfl (lv_at hl 1 rfl) ?_
  refine s_ishr0 hx hb dJ5_charAt_5068e_17 ?_
  refine g_mmin hx hb hml hl.1 hown hT zh_J5_138 (Nat.le_of_ble_eq_true rfl) (Nat.le_of_ble_eq_true rfl) (Nat.le_of_ble_eq_true rfl) (Nat.le_of_ble_eq_true rfl) dJ5_charAt_5068e_18 ?_
  rw [show g_min ((nI t.length)) ((nI m)) = (nI t.length) from j_minN ht.1 (by have := ht.2.1; omega)]
  refine lv_istore (lv' := [(4, .int (nI t.length)), (3, .ref v), (2, .int 0), (0, .ref o), (1, .int (nI j))]) hx hb dJ5_charAt_5068e_21 hl (by decide) rfl (fun ls hl => ?_)
  refine lv_iload_n hx hb dJ5_charAt_5068e_23 rfl (lv_at hl 4 rfl) ?_
  refine lv_iload hx hb dJ5_charAt_5068e_24 (lv_at hl 0 rfl) ?_
  refine s_callS hx hb hml hown hT hK hA e_ok hE hw zk_J5_144 (j_schk l D g t1 t2 adK adV j t.length (List.getElem?_eq_some_iff.mp hj).1 (by have := ht.1; have := ht.2.1; omega)) [] [0, 1] rfl (by decide) (wr := [(o, .inr (0, [.ref v, .int 0, .int ml, .int (nI t.length)])), (v, .inl (g 4, m, .inl f))]) rfl (by decide) (by decide) rfl hl.1 [] rfl (Nat.le_of_ble_eq_true rfl) ⟨Nat.le_of_ble_eq_true rfl, Nat.le_of_ble_eq_true rfl⟩ ⟨Nat.le_of_ble_eq_true rfl, Nat.le_of_ble_eq_true rfl⟩ dJ5_charAt_5068e_26 (fun rv w1 H locs hp hw => ?_)
  obtain ⟨rfl, rfl⟩ := hp
  have hw : g_Wd D A s0.heap _ _ [(o, .inr (0, [.ref v, .int 0, .int ml, .int (nI t.length)])), (v, .inl (g 4, m, .inl f))] := hw
  refine lv_iload_n hx hb dJ5_charAt_5068e_29 rfl (lv_at hl 2 rfl) ?_
  refine lv_if_ne (tgt := 42) hx hb dJ5_charAt_5068e_30 (by decide) (fun h1 => absurd (rfl) h1) (fun _ => ?_)
  refine lv_aload_n hx hb dJ5_charAt_5068e_33 rfl (lv_at hl 1 rfl) ?_
  refine lv_iload_n hx hb dJ5_charAt_5068e_34 rfl (lv_at hl 4 rfl) ?_
  refine s_bald hx hb hK hw 1 rfl (i := nI j) (x := nI x) (vp_in_nI (j_jm ht hj).1 (j_jm ht hj).2.1) (j_jm ht hj).2.2 dJ5_charAt_5068e_35 ?_
  refine lv_sipush (v := 255) hx hb dJ5_charAt_5068e_36 (by decide) ?_
  refine lv_iand hx hb dJ5_charAt_5068e_39 ?_
  rw [(j_and (ht.2.2.2 j x hj).2).1]
  refine lv_i2c hx hb dJ5_charAt_5068e_40 (j_and (ht.2.2.2 j x hj).2).2.1 ?_
  exact s_zret (ty := .char) hQ hx hb hr (j_and (ht.2.2.2 j x hj).2).2.2 hlk ⟨Nat.le_of_ble_eq_true rfl, Nat.le_of_ble_eq_true rfl⟩ hw (⟨rfl, rfl⟩) dJ5_charAt_5068e_41
set_option maxRecDepth 100000 in
set_option maxHeartbeats 4000000 in
theorem j_setl0 (l : Launch) (D : va_G) (g : Nat → ClassId) (t1 t2 : Nat) (adK adV : Nat → Nat) (o v : Nat) (ml : Int32) (m : Nat) (f : Nat → Int32) (t : List Nat) (ht : sbT t m f) (hz8 : t.length = 0) : s_Ct l yJ5_setLength_d00df cJ5_setLength_d00df 2 none 4 1 130 84 (e_St t1 t2 adK adV) D g [.ref o, .int 0] [(o, .inr (0, [.ref v, .int 0, .int ml, .int (nI t.length)])), (v, .inl (g 4, m, .inl f))] (fun rv w1 => ∃ (v2 m2 : Nat) (f2 : Nat → Int32) (ml2 : Int32), (rv = none ∧ sbT [] m2 f2) ∧ w1 = [(o, .inr (0, [.ref v2, .int 0, .int ml2, .int 0])), (v2, .inl (g 4, m2, .inl f2))]) := by
  refine s_start RJ5 (by decide) rfl (Nat.le_of_ble_eq_true rfl) ?_
  intro p0 e0 s0 m0 args below meth c0 A ls Q hQ hx hb hr hlk hml hown hT hK hA hE hw hl
  have hl : lv_has ls 2 [(0, .ref o), (1, .int 0)] := hl
  refine lv_iload_n hx hb dJ5_setLength_d00df_0 rfl (lv_at hl 1 rfl) ?_
  refine lv_if_ge (tgt := 13) hx hb dJ5_setLength_d00df_1 (by decide) (fun _ => ?_) (fun h1 => absurd (by decide) h1)
  refine lv_aload_n hx hb dJ5_setLength_d00df_13 rfl (lv_at hl 0 rfl) ?_
  refine lv_iload_n hx hb dJ5_setLength_d00df_14 rfl (lv_at hl 1 rfl) ?_
  refine s_callV (C := RJ4) hx hb hml hown hT hK hA e_ok hE hw zk_J5_100 zn_J5_ensureCapacityInternal_d00df (e_sel hE 0 rfl) (j_ens l D g t1 t2 adK adV o v ml (nI t.length) m f 0 (by omega) ht.2.1 ht.2.2.1) [0, 1] [] rfl (by decide) (wr := []) rfl (by decide) (by decide) (va_recv hK hw.1 (q := (RJ4, TJ4, 4)) (q0 := 0) rfl rfl) rfl hl.1 [] rfl (Nat.le_of_ble_eq_true rfl) ⟨Nat.le_of_ble_eq_true rfl, Nat.le_of_ble_eq_true rfl⟩ ⟨Nat.le_of_ble_eq_true rfl, Nat.le_of_ble_eq_true rfl⟩ dJ5_setLength_d00df_15 (fun rv w1 H locs hp hw => ?_)
  obtain ⟨v2, m2, f2, ⟨rfl, hm2, hf2, hj2⟩, rfl⟩ := hp
  have hw : g_Wd D A s0.heap _ _ [(o, .inr (0, [.ref v2, .int 0, .int ml, .int (nI t.length)])), (v2, .inl (g 4, m2, .inl f2))] := hw
  have ht2 := sbT_keep ht hm2.2 hf2 hj2
  refine lv_aload_n hx hb dJ5_setLength_d00df_18 rfl (lv_at hl 0 rfl) ?_
  refine s_get hx hb hT hK hown (k := 3) (by decide) zf_J5_79 hw 0 rfl (v := .int (nI t.length)) rfl dJ5_setLength_d00df_19 ?_
  refine lv_iload_n hx hb dJ5_setLength_d00df_22 rfl (lv_at hl 1 rfl) ?_
  refine lv_icmp_ge (tgt := 63) hx hb dJ5_setLength_d00df_23 (by decide) (fun _ => ?_) (fun h1 => absurd (nI_pos' (by have := ht.1; have := ht.2.1; omega)) h1)
  refine lv_aload_n hx hb dJ5_setLength_d00df_63 rfl (lv_at hl 0 rfl) ?_
  refine s_get hx hb hT hK hown (k := 3) (by decide) zf_J5_79 hw 0 rfl (v := .int (nI t.length)) rfl dJ5_setLength_d00df_64 ?_
  refine lv_iload_n hx hb dJ5_setLength_d00df_67 rfl (lv_at hl 1 rfl) ?_
  refine lv_icmp_le (tgt := 76) hx hb dJ5_setLength_d00df_68 (by decide) (fun _ => ?_) (fun h1 => absurd (by rw [hz8]; decide) h1)
  refine lv_aload_n hx hb dJ5_setLength_d00df_76 rfl (lv_at hl 0 rfl) ?_
  refine lv_iload_n hx hb dJ5_setLength_d00df_77 rfl (lv_at hl 1 rfl) ?_
  refine s_put hx hb hT hK hown (k := 3) (by decide) zf_J5_79 hw 0 rfl rfl rfl rfl (Nat.le_of_ble_eq_true rfl) (ws' := [(o, .inr (0, [.ref v2, .int 0, .int ml, .int 0])), (v2, .inl (g 4, m2, .inl f2))]) rfl dJ5_setLength_d00df_78 (fun H locs hw => ?_)
  exact s_vret hQ hx hb hr hlk ⟨Nat.le_of_ble_eq_true rfl, Nat.le_of_ble_eq_true rfl⟩ hw (⟨v2, m2, f2, _, ⟨rfl, Nat.zero_le _, ht2.2.1, ht2.2.2.1, fun j x h => absurd h (by simp)⟩, rfl⟩) dJ5_setLength_d00df_81
set_option maxRecDepth 100000 in
set_option maxHeartbeats 4000000 in
theorem j_setl1 (l : Launch) (D : va_G) (g : Nat → ClassId) (t1 t2 : Nat) (adK adV : Nat → Nat) (o v : Nat) (ml : Int32) (m : Nat) (f : Nat → Int32) (t : List Nat) (ht : sbT t m f) (hz8 : 0 < t.length) : s_Ct l yJ5_setLength_d00df cJ5_setLength_d00df 2 none 4 1 130 84 (e_St t1 t2 adK adV) D g [.ref o, .int 0] [(o, .inr (0, [.ref v, .int 0, .int ml, .int (nI t.length)])), (v, .inl (g 4, m, .inl f))] (fun rv w1 => ∃ (v2 m2 : Nat) (f2 : Nat → Int32) (ml2 : Int32), (rv = none ∧ sbT [] m2 f2) ∧ w1 = [(o, .inr (0, [.ref v2, .int 0, .int ml2, .int 0])), (v2, .inl (g 4, m2, .inl f2))]) := by
  refine s_start RJ5 (by decide) rfl (Nat.le_of_ble_eq_true rfl) ?_
  intro p0 e0 s0 m0 args below meth c0 A ls Q hQ hx hb hr hlk hml hown hT hK hA hE hw hl
  have hl : lv_has ls 2 [(0, .ref o), (1, .int 0)] := hl
  refine lv_iload_n hx hb dJ5_setLength_d00df_0 rfl (lv_at hl 1 rfl) ?_
  refine lv_if_ge (tgt := 13) hx hb dJ5_setLength_d00df_1 (by decide) (fun _ => ?_) (fun h1 => absurd (by decide) h1)
  refine lv_aload_n hx hb dJ5_setLength_d00df_13 rfl (lv_at hl 0 rfl) ?_
  refine lv_iload_n hx hb dJ5_setLength_d00df_14 rfl (lv_at hl 1 rfl) ?_
  refine s_callV (C := RJ4) hx hb hml hown hT hK hA e_ok hE hw zk_J5_100 zn_J5_ensureCapacityInternal_d00df (e_sel hE 0 rfl) (j_ens l D g t1 t2 adK adV o v ml (nI t.length) m f 0 (by omega) ht.2.1 ht.2.2.1) [0, 1] [] rfl (by decide) (wr := []) rfl (by decide) (by decide) (va_recv hK hw.1 (q := (RJ4, TJ4, 4)) (q0 := 0) rfl rfl) rfl hl.1 [] rfl (Nat.le_of_ble_eq_true rfl) ⟨Nat.le_of_ble_eq_true rfl, Nat.le_of_ble_eq_true rfl⟩ ⟨Nat.le_of_ble_eq_true rfl, Nat.le_of_ble_eq_true rfl⟩ dJ5_setLength_d00df_15 (fun rv w1 H locs hp hw => ?_)
  obtain ⟨v2, m2, f2, ⟨rfl, hm2, hf2, hj2⟩, rfl⟩ := hp
  have hw : g_Wd D A s0.heap _ _ [(o, .inr (0, [.ref v2, .int 0, .int ml, .int (nI t.length)])), (v2, .inl (g 4, m2, .inl f2))] := hw
  have ht2 := sbT_keep ht hm2.2 hf2 hj2
  refine lv_aload_n hx hb dJ5_setLength_d00df_18 rfl (lv_at hl 0 rfl) ?_
  refine s_get hx hb hT hK hown (k := 3) (by decide) zf_J5_79 hw 0 rfl (v := .int (nI t.length)) rfl dJ5_setLength_d00df_19 ?_
  refine lv_iload_n hx hb dJ5_setLength_d00df_22 rfl (lv_at hl 1 rfl) ?_
  refine lv_icmp_ge (tgt := 63) hx hb dJ5_setLength_d00df_23 (by decide) (fun _ => ?_) (fun h1 => absurd (nI_pos' (by have := ht.1; have := ht.2.1; omega)) h1)
  refine lv_aload_n hx hb dJ5_setLength_d00df_63 rfl (lv_at hl 0 rfl) ?_
  refine s_get hx hb hT hK hown (k := 3) (by decide) zf_J5_79 hw 0 rfl (v := .int (nI t.length)) rfl dJ5_setLength_d00df_64 ?_
  refine lv_iload_n hx hb dJ5_setLength_d00df_67 rfl (lv_at hl 1 rfl) ?_
  refine lv_icmp_le (tgt := 76) hx hb dJ5_setLength_d00df_68 (by decide) (fun h1 => absurd h1 (nI_nle hz8 (by have := ht.1; have := ht.2.1; omega))) (fun _ => ?_)
  refine lv_aload_n hx hb dJ5_setLength_d00df_71 rfl (lv_at hl 0 rfl) ?_
  refine lv_iconst (v := 1) hx hb dJ5_setLength_d00df_72 (by decide) ?_
  refine s_put hx hb hT hK hown (k := 2) (by decide) zf_J5_73 hw 0 rfl rfl rfl rfl (Nat.le_of_ble_eq_true rfl) (ws' := [(o, .inr (0, [.ref v2, .int 0, .int 1, .int (nI t.length)])), (v2, .inl (g 4, m2, .inl f2))]) rfl dJ5_setLength_d00df_73 (fun H locs hw => ?_)
  refine lv_aload_n hx hb dJ5_setLength_d00df_76 rfl (lv_at hl 0 rfl) ?_
  refine lv_iload_n hx hb dJ5_setLength_d00df_77 rfl (lv_at hl 1 rfl) ?_
  refine s_put hx hb hT hK hown (k := 3) (by decide) zf_J5_79 hw 0 rfl rfl rfl rfl (Nat.le_of_ble_eq_true rfl) (ws' := [(o, .inr (0, [.ref v2, .int 0, .int 1, .int 0])), (v2, .inl (g 4, m2, .inl f2))]) rfl dJ5_setLength_d00df_78 (fun H locs hw => ?_)
  exact s_vret hQ hx hb hr hlk ⟨Nat.le_of_ble_eq_true rfl, Nat.le_of_ble_eq_true rfl⟩ hw (⟨v2, m2, f2, _, ⟨rfl, Nat.zero_le _, ht2.2.1, ht2.2.2.1, fun j x h => absurd h (by simp)⟩, rfl⟩) dJ5_setLength_d00df_81
set_option maxRecDepth 100000 in
theorem j_setl (l : Launch) (D : va_G) (g : Nat → ClassId) (t1 t2 : Nat) (adK adV : Nat → Nat) (o v : Nat) (ml : Int32) (m : Nat) (f : Nat → Int32) (t : List Nat) (ht : sbT t m f) : s_Ct l yJ5_setLength_d00df cJ5_setLength_d00df 2 none 4 1 130 84 (e_St t1 t2 adK adV) D g [.ref o, .int 0] [(o, .inr (0, [.ref v, .int 0, .int ml, .int (nI t.length)])), (v, .inl (g 4, m, .inl f))] (fun rv w1 => ∃ (v2 m2 : Nat) (f2 : Nat → Int32) (ml2 : Int32), (rv = none ∧ sbT [] m2 f2) ∧ w1 = [(o, .inr (0, [.ref v2, .int 0, .int ml2, .int 0])), (v2, .inl (g 4, m2, .inl f2))]) := by
  rcases Nat.eq_zero_or_pos t.length with h | h
  · exact j_setl0 l D g t1 t2 adK adV o v ml m f t ht h
  · exact j_setl1 l D g t1 t2 adK adV o v ml m f t ht h
set_option maxRecDepth 100000 in
theorem j_appI (l : Launch) (D : va_G) (g : Nat → ClassId) (t1 t2 : Nat) (adK adV : Nat → Nat) (o v : Nat) (ml : Int32) (m : Nat) (f : Nat → Int32) (t : List Nat) (k : Nat) (ht : sbT t m f) (hl6 : t.length + 2 ≤ 64) (hk : k < 100) : s_Ct l yJ5_append_c97b9 cJ5_append_c97b9 4 (some (.object "java/lang/AbstractStringBuilder")) 4 1 130 84 (e_St t1 t2 adK adV) D g [.ref o, .int (nI k)] [(o, .inr (0, [.ref v, .int 0, .int ml, .int (nI t.length)])), (v, .inl (g 4, m, .inl f))] (fun rv w1 => ∃ (v2 m2 : Nat) (f2 : Nat → Int32), (rv = some (.ref o) ∧ sbT (t ++ numN k) m2 f2) ∧ w1 = [(o, .inr (0, [.ref v2, .int 0, .int ml, .int (nI (t ++ numN k).length)])), (v2, .inl (g 4, m2, .inl f2))]) := by
  rcases Nat.lt_or_ge k 10 with h | h
  · exact j_appI1 l D g t1 t2 adK adV o v ml m f t k ht (by omega) h
  · exact j_appI2 l D g t1 t2 adK adV o v ml m f t k ht hl6 h hk
set_option maxRecDepth 100000 in
set_option maxHeartbeats 4000000 in
theorem sb_appS (l : Launch) (D : va_G) (g : Nat → ClassId) (t1 t2 : Nat) (adK adV : Nat → Nat) (o v : Nat) (ml : Int32) (m : Nat) (f : Nat → Int32) (t : List Nat) (i : Nat) (ht : sbT t m f) (hi7 : i < 7) (hl6 : t.length + sLen.getD i 0 ≤ 64) : s_Ct l yJ4_append_15ec4 cJ4_append_15ec4 2 (some (.object "java/lang/StringBuilder")) 5 1 130 107 (e_St t1 t2 adK adV) D g [.ref o, .ref (adK i)] [(o, .inr (0, [.ref v, .int 0, .int ml, .int (nI t.length)])), (v, .inl (g 4, m, .inl f))] (fun rv w1 => ∃ (v2 m2 : Nat) (f2 : Nat → Int32), (rv = some (.ref o) ∧ sbT (t ++ sNat.getD i []) m2 f2) ∧ w1 = [(o, .inr (0, [.ref v2, .int 0, .int ml, .int (nI (t ++ sNat.getD i []).length)])), (v2, .inl (g 4, m2, .inl f2))]) := by
  refine s_start RJ4 (by decide) rfl (Nat.le_of_ble_eq_true rfl) ?_
  intro p0 e0 s0 m0 args below meth c0 A ls Q hQ hx hb hr hlk hml hown hT hK hA hE hw hl
  have hl : lv_has ls 2 [(0, .ref o), (1, .ref (adK i))] := hl
  refine lv_aload_n hx hb dJ4_append_15ec4_0 rfl (lv_at hl 0 rfl) ?_
  refine lv_aload_n hx hb dJ4_append_15ec4_1 rfl (lv_at hl 1 rfl) ?_
  refine s_callU hx hb hml hown hT hK hA e_ok hE hw zk_J4_29 zn_J5_append_cf1ce zm_J5_append_cf1ce z_sup (by decide) (j_appS l D g t1 t2 adK adV o v ml m f t i ht hi7 hl6) [0, 1] [] rfl (by decide) (wr := []) rfl (by decide) (by decide) 0 rfl rfl hl.1 [] rfl (Nat.le_of_ble_eq_true rfl) ⟨Nat.le_of_ble_eq_true rfl, Nat.le_of_ble_eq_true rfl⟩ ⟨Nat.le_of_ble_eq_true rfl, Nat.le_of_ble_eq_true rfl⟩ dJ4_append_15ec4_2 (fun rv w1 H locs hp hw => ?_)
  obtain ⟨v2, m2, f2, ⟨rfl, ht2⟩, rfl⟩ := hp
  have hw : g_Wd D A s0.heap _ _ [(o, .inr (0, [.ref v2, .int 0, .int ml, .int (nI (t ++ sNat.getD i []).length)])), (v2, .inl (g 4, m2, .inl f2))] := hw
  refine lv_pop hx hb dJ4_append_15ec4_5 rfl ?_
  refine lv_aload_n hx hb dJ4_append_15ec4_6 rfl (lv_at hl 0 rfl) ?_
  exact s_aret hQ hx hb hr (Or.inl ⟨_, rfl⟩) hlk ⟨Nat.le_of_ble_eq_true rfl, Nat.le_of_ble_eq_true rfl⟩ hw (⟨v2, m2, f2, ⟨rfl, ht2⟩, rfl⟩) dJ4_append_15ec4_7
set_option maxRecDepth 100000 in
set_option maxHeartbeats 4000000 in
theorem sb_appC (l : Launch) (D : va_G) (g : Nat → ClassId) (t1 t2 : Nat) (adK adV : Nat → Nat) (o v : Nat) (ml : Int32) (m : Nat) (f : Nat → Int32) (t : List Nat) (x : Nat) (ht : sbT t m f) (hl6 : t.length + 1 ≤ 64) (hx8 : x < 128) : s_Ct l yJ4_append_cf468 cJ4_append_cf468 2 (some (.object "java/lang/StringBuilder")) 5 1 130 105 (e_St t1 t2 adK adV) D g [.ref o, .int (nI x)] [(o, .inr (0, [.ref v, .int 0, .int ml, .int (nI t.length)])), (v, .inl (g 4, m, .inl f))] (fun rv w1 => ∃ (v2 m2 : Nat) (f2 : Nat → Int32), (rv = some (.ref o) ∧ sbT (t ++ [x]) m2 f2) ∧ w1 = [(o, .inr (0, [.ref v2, .int 0, .int ml, .int (nI (t ++ [x]).length)])), (v2, .inl (g 4, m2, .inl f2))]) := by
  refine s_start RJ4 (by decide) rfl (Nat.le_of_ble_eq_true rfl) ?_
  intro p0 e0 s0 m0 args below meth c0 A ls Q hQ hx hb hr hlk hml hown hT hK hA hE hw hl
  have hl : lv_has ls 2 [(0, .ref o), (1, .int (nI x))] := hl
  refine lv_aload_n hx hb dJ4_append_cf468_0 rfl (lv_at hl 0 rfl) ?_
  refine lv_iload_n hx hb dJ4_append_cf468_1 rfl (lv_at hl 1 rfl) ?_
  refine s_callU hx hb hml hown hT hK hA e_ok hE hw zk_J4_50 zn_J5_append_3fe6f zm_J5_append_3fe6f z_sup (by decide) (j_appC l D g t1 t2 adK adV o v ml m f t x ht hl6 hx8) [0, 1] [] rfl (by decide) (wr := []) rfl (by decide) (by decide) 0 rfl rfl hl.1 [] rfl (Nat.le_of_ble_eq_true rfl) ⟨Nat.le_of_ble_eq_true rfl, Nat.le_of_ble_eq_true rfl⟩ ⟨Nat.le_of_ble_eq_true rfl, Nat.le_of_ble_eq_true rfl⟩ dJ4_append_cf468_2 (fun rv w1 H locs hp hw => ?_)
  obtain ⟨v2, m2, f2, ⟨rfl, ht2⟩, rfl⟩ := hp
  have hw : g_Wd D A s0.heap _ _ [(o, .inr (0, [.ref v2, .int 0, .int ml, .int (nI (t ++ [x]).length)])), (v2, .inl (g 4, m2, .inl f2))] := hw
  refine lv_pop hx hb dJ4_append_cf468_5 rfl ?_
  refine lv_aload_n hx hb dJ4_append_cf468_6 rfl (lv_at hl 0 rfl) ?_
  exact s_aret hQ hx hb hr (Or.inl ⟨_, rfl⟩) hlk ⟨Nat.le_of_ble_eq_true rfl, Nat.le_of_ble_eq_true rfl⟩ hw (⟨v2, m2, f2, ⟨rfl, ht2⟩, rfl⟩) dJ4_append_cf468_7
set_option maxRecDepth 100000 in
set_option maxHeartbeats 4000000 in
theorem sb_appI (l : Launch) (D : va_G) (g : Nat → ClassId) (t1 t2 : Nat) (adK adV : Nat → Nat) (o v : Nat) (ml : Int32) (m : Nat) (f : Nat → Int32) (t : List Nat) (k : Nat) (ht : sbT t m f) (hl6 : t.length + 2 ≤ 64) (hk : k < 100) : s_Ct l yJ4_append_bf812 cJ4_append_bf812 2 (some (.object "java/lang/StringBuilder")) 5 1 130 107 (e_St t1 t2 adK adV) D g [.ref o, .int (nI k)] [(o, .inr (0, [.ref v, .int 0, .int ml, .int (nI t.length)])), (v, .inl (g 4, m, .inl f))] (fun rv w1 => ∃ (v2 m2 : Nat) (f2 : Nat → Int32), (rv = some (.ref o) ∧ sbT (t ++ numN k) m2 f2) ∧ w1 = [(o, .inr (0, [.ref v2, .int 0, .int ml, .int (nI (t ++ numN k).length)])), (v2, .inl (g 4, m2, .inl f2))]) := by
  refine s_start RJ4 (by decide) rfl (Nat.le_of_ble_eq_true rfl) ?_
  intro p0 e0 s0 m0 args below meth c0 A ls Q hQ hx hb hr hlk hml hown hT hK hA hE hw hl
  have hl : lv_has ls 2 [(0, .ref o), (1, .int (nI k))] := hl
  refine lv_aload_n hx hb dJ4_append_bf812_0 rfl (lv_at hl 0 rfl) ?_
  refine lv_iload_n hx hb dJ4_append_bf812_1 rfl (lv_at hl 1 rfl) ?_
  refine s_callU hx hb hml hown hT hK hA e_ok hE hw zk_J4_53 zn_J5_append_c97b9 zm_J5_append_c97b9 z_sup (by decide) (j_appI l D g t1 t2 adK adV o v ml m f t k ht hl6 hk) [0, 1] [] rfl (by decide) (wr := []) rfl (by decide) (by decide) 0 rfl rfl hl.1 [] rfl (Nat.le_of_ble_eq_true rfl) ⟨Nat.le_of_ble_eq_true rfl, Nat.le_of_ble_eq_true rfl⟩ ⟨Nat.le_of_ble_eq_true rfl, Nat.le_of_ble_eq_true rfl⟩ dJ4_append_bf812_2 (fun rv w1 H locs hp hw => ?_)
  obtain ⟨v2, m2, f2, ⟨rfl, ht2⟩, rfl⟩ := hp
  have hw : g_Wd D A s0.heap _ _ [(o, .inr (0, [.ref v2, .int 0, .int ml, .int (nI (t ++ numN k).length)])), (v2, .inl (g 4, m2, .inl f2))] := hw
  refine lv_pop hx hb dJ4_append_bf812_5 rfl ?_
  refine lv_aload_n hx hb dJ4_append_bf812_6 rfl (lv_at hl 0 rfl) ?_
  exact s_aret hQ hx hb hr (Or.inl ⟨_, rfl⟩) hlk ⟨Nat.le_of_ble_eq_true rfl, Nat.le_of_ble_eq_true rfl⟩ hw (⟨v2, m2, f2, ⟨rfl, ht2⟩, rfl⟩) dJ4_append_bf812_7
set_option maxRecDepth 100000 in
set_option maxHeartbeats 4000000 in
theorem sb_charAt (l : Launch) (D : va_G) (g : Nat → ClassId) (t1 t2 : Nat) (adK adV : Nat → Nat) (o v : Nat) (ml : Int32) (m : Nat) (f : Nat → Int32) (t : List Nat) (j x : Nat) (ht : sbT t m f) (hj : t[j]? = some x) : s_Ct l yJ4_charAt_5068e cJ4_charAt_5068e 2 (some .char) 3 0 0 67 (e_St t1 t2 adK adV) D g [.ref o, .int (nI j)] [(o, .inr (0, [.ref v, .int 0, .int ml, .int (nI t.length)])), (v, .inl (g 4, m, .inl f))] (fun rv w1 => rv = some (.int (nI x)) ∧ w1 = [(o, .inr (0, [.ref v, .int 0, .int ml, .int (nI t.length)])), (v, .inl (g 4, m, .inl f))]) := by
  refine s_start RJ4 (by decide) rfl (Nat.le_of_ble_eq_true rfl) ?_
  intro p0 e0 s0 m0 args below meth c0 A ls Q hQ hx hb hr hlk hml hown hT hK hA hE hw hl
  have hl : lv_has ls 2 [(0, .ref o), (1, .int (nI j))] := hl
  refine lv_aload_n hx hb dJ4_charAt_5068e_0 rfl (lv_at hl 0 rfl) ?_
  refine lv_iload_n hx hb dJ4_charAt_5068e_1 rfl (lv_at hl 1 rfl) ?_
  refine s_callU hx hb hml hown hT hK hA e_ok hE hw zk_J4_329 zn_J5_charAt_5068e zm_J5_charAt_5068e z_sup (by decide) (j_charAt l D g t1 t2 adK adV o v ml m f t j x ht hj) [0, 1] [] rfl (by decide) (wr := []) rfl (by decide) (by decide) 0 rfl rfl hl.1 [] rfl (Nat.le_of_ble_eq_true rfl) ⟨Nat.le_of_ble_eq_true rfl, Nat.le_of_ble_eq_true rfl⟩ ⟨Nat.le_of_ble_eq_true rfl, Nat.le_of_ble_eq_true rfl⟩ dJ4_charAt_5068e_2 (fun rv w1 H locs hp hw => ?_)
  obtain ⟨rfl, rfl⟩ := hp
  have hw : g_Wd D A s0.heap _ _ [(o, .inr (0, [.ref v, .int 0, .int ml, .int (nI t.length)])), (v, .inl (g 4, m, .inl f))] := hw
  exact s_zret (ty := .char) hQ hx hb hr (j_and (ht.2.2.2 j x hj).2).2.2 hlk ⟨Nat.le_of_ble_eq_true rfl, Nat.le_of_ble_eq_true rfl⟩ hw (⟨rfl, rfl⟩) dJ4_charAt_5068e_5
set_option maxRecDepth 100000 in
set_option maxHeartbeats 4000000 in
theorem sb_setl (l : Launch) (D : va_G) (g : Nat → ClassId) (t1 t2 : Nat) (adK adV : Nat → Nat) (o v : Nat) (ml : Int32) (m : Nat) (f : Nat → Int32) (t : List Nat) (ht : sbT t m f) : s_Ct l yJ4_setLength_d00df cJ4_setLength_d00df 2 none 5 1 130 105 (e_St t1 t2 adK adV) D g [.ref o, .int 0] [(o, .inr (0, [.ref v, .int 0, .int ml, .int (nI t.length)])), (v, .inl (g 4, m, .inl f))] (fun rv w1 => ∃ (v2 m2 : Nat) (f2 : Nat → Int32) (ml2 : Int32), (rv = none ∧ sbT [] m2 f2) ∧ w1 = [(o, .inr (0, [.ref v2, .int 0, .int ml2, .int 0])), (v2, .inl (g 4, m2, .inl f2))]) := by
  refine s_start RJ4 (by decide) rfl (Nat.le_of_ble_eq_true rfl) ?_
  intro p0 e0 s0 m0 args below meth c0 A ls Q hQ hx hb hr hlk hml hown hT hK hA hE hw hl
  have hl : lv_has ls 2 [(0, .ref o), (1, .int 0)] := hl
  refine lv_aload_n hx hb dJ4_setLength_d00df_0 rfl (lv_at hl 0 rfl) ?_
  refine lv_iload_n hx hb dJ4_setLength_d00df_1 rfl (lv_at hl 1 rfl) ?_
  refine s_callU hx hb hml hown hT hK hA e_ok hE hw zk_J4_333 zn_J5_setLength_d00df zm_J5_setLength_d00df z_sup (by decide) (j_setl l D g t1 t2 adK adV o v ml m f t ht) [0, 1] [] rfl (by decide) (wr := []) rfl (by decide) (by decide) 0 rfl rfl hl.1 [] rfl (Nat.le_of_ble_eq_true rfl) ⟨Nat.le_of_ble_eq_true rfl, Nat.le_of_ble_eq_true rfl⟩ ⟨Nat.le_of_ble_eq_true rfl, Nat.le_of_ble_eq_true rfl⟩ dJ4_setLength_d00df_2 (fun rv w1 H locs hp hw => ?_)
  obtain ⟨v2, m2, f2, ml2, ⟨rfl, ht2⟩, rfl⟩ := hp
  have hw : g_Wd D A s0.heap _ _ [(o, .inr (0, [.ref v2, .int 0, .int ml2, .int 0])), (v2, .inl (g 4, m2, .inl f2))] := hw
  exact s_vret hQ hx hb hr hlk ⟨Nat.le_of_ble_eq_true rfl, Nat.le_of_ble_eq_true rfl⟩ hw (⟨v2, m2, f2, ml2, ⟨rfl, ht2⟩, rfl⟩) dJ4_setLength_d00df_5
set_option maxRecDepth 100000 in
set_option maxHeartbeats 4000000 in
theorem sb_len (l : Launch) (D : va_G) (g : Nat → ClassId) (t1 t2 : Nat) (adK adV : Nat → Nat) (o v : Nat) (ml n : Int32) : s_Ct l yJ4_length_8abf5 cJ4_length_8abf5 1 (some .int) 1 0 0 20 (e_St t1 t2 adK adV) D g [.ref o] [(o, .inr (0, [.ref v, .int 0, .int ml, .int n]))] (fun rv w1 => rv = some (.int n) ∧ w1 = [(o, .inr (0, [.ref v, .int 0, .int ml, .int n]))]) := by
  refine s_start RJ4 (by decide) rfl (Nat.le_of_ble_eq_true rfl) ?_
  intro p0 e0 s0 m0 args below meth c0 A ls Q hQ hx hb hr hlk hml hown hT hK hA hE hw hl
  have hl : lv_has ls 1 [(0, .ref o)] := hl
  refine lv_aload_n hx hb dJ4_length_8abf5_0 rfl (lv_at hl 0 rfl) ?_
  refine s_callU hx hb hml hown hT hK hA e_ok hE hw zk_J4_343 zn_J5_length_8abf5 zm_J5_length_8abf5 z_sup (by decide) (j_len l D g t1 t2 adK adV o v ml n) [0] [] rfl (by decide) (wr := []) rfl (by decide) (by decide) 0 rfl rfl hl.1 [] rfl (Nat.le_of_ble_eq_true rfl) ⟨Nat.le_of_ble_eq_true rfl, Nat.le_of_ble_eq_true rfl⟩ ⟨Nat.le_of_ble_eq_true rfl, Nat.le_of_ble_eq_true rfl⟩ dJ4_length_8abf5_1 (fun rv w1 H locs hp hw => ?_)
  obtain ⟨rfl, rfl⟩ := hp
  have hw : g_Wd D A s0.heap _ _ [(o, .inr (0, [.ref v, .int 0, .int ml, .int n]))] := hw
  exact s_iret hQ hx hb hr hlk ⟨Nat.le_of_ble_eq_true rfl, Nat.le_of_ble_eq_true rfl⟩ hw (⟨rfl, rfl⟩) dJ4_length_8abf5_4
