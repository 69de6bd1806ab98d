/-! what the start gives: the statics, the classes -/
theorem h_tb {i : Nat} {w : Cond} (h : tables_1[i]? = some w) : w ∈ lw_tbl := List.mem_append_right _ (List.mem_of_getElem? h)
theorem h_tm {w : Cond} (h : w ∈ tables_1) : w ∈ lw_tbl := List.mem_append_right _ h
theorem s_selQ {s : State} {args : Array Value} {y : MethodName} {n : Nat} (hins : (Cond.instantiable RJ4 n).before args s = true) (hsm : (Cond.sameMethod y.cls y.cls y.name y.desc).before args s = true) (hpr : (Cond.privateMethod y).before args s = true) (hin : (Cond.instanceMethod y).before args s = true) : (Cond.selects RJ4 y y).before args s = true := by
  obtain ⟨c0, k0, hc0, hk0, -⟩ := Cond.instantiable_spec hins
  obtain ⟨cn, ck, r, hcn, hck, hni, hf, hn1⟩ := Cond.sameMethod_found hsm
  obtain ⟨mk, methM, hnamed, hmethM, -, -⟩ := Cond.instanceMethod_spec hin
  have hn1' : s.methodNamed? y = some r := hn1
  cases hn1'.symm.trans hnamed
  have hcls : r.cls = cn := Option.some.inj ((findClass_of_methodNamed hnamed).symm.trans hcn)
  have hsel : selectMethod {} s.vm c0 r = .method r := selectMethod_private hmethM (Cond.privateMethod_at hpr r methM hnamed hmethM)
  simp only [Cond.before, Cond.holds, Cond.value, hc0, hf, hnamed, hsel, hcls, hck]
  simp; exact hni
def tmS (i : Nat) : Term := Term.string "SpriteAtlas" (sKey.getD i 0)
def tmV (i : Nat) : Term := Term.field (tmS i) "java/lang/String" "value" "[B"
abbrev gN : List Cond := flatC (Jvm.Cond.and given_1 narrow_1)
theorem h_gn {i : Nat} {w : Cond} (h : gN[i]? = some w) : w ∈ gN := List.mem_of_getElem? h
theorem u_slice {L M : List Cond} {a n : Nat} (h : (L.drop a).take n = M) {w : Cond} (hw : w ∈ M) : w ∈ L := List.mem_of_mem_drop (List.mem_of_mem_take (i := n) (h ▸ hw))
theorem u_ones1 : (gN.drop 8).take 100 = (List.range 100).map (fun j => Cond.eq (.elem (.static "java/lang/Integer" "DigitOnes" "[B") (.int (Int32.ofNat j))) (.int (nI (48 + j % 10)))) := by decide +kernel
theorem u_tens1 : (gN.drop 111).take 100 = (List.range 100).map (fun j => Cond.eq (.elem (.static "java/lang/Integer" "DigitTens" "[B") (.int (Int32.ofNat j))) (.int (nI (48 + j / 10)))) := by decide +kernel
theorem u_ones0 : ∀ j : Nat, j < 100 → Cond.eq (.elem (.static "java/lang/Integer" "DigitOnes" "[B") (.int (Int32.ofNat j))) (.int (nI (48 + j % 10))) ∈ gN := fun j hj => u_slice u_ones1 (List.mem_map.mpr ⟨j, List.mem_range.mpr hj, rfl⟩)
theorem u_tens0 : ∀ j : Nat, j < 100 → Cond.eq (.elem (.static "java/lang/Integer" "DigitTens" "[B") (.int (Int32.ofNat j))) (.int (nI (48 + j / 10))) ∈ gN := fun j hj => u_slice u_tens1 (List.mem_map.mpr ⟨j, List.mem_range.mpr hj, rfl⟩)
def sM (i : Nat) : List Cond := [Cond.exactly (tmS i) "java/lang/String", Cond.eq (.field (tmS i) "java/lang/String" "coder" "B") (.int 0), Cond.arrayOf (tmV i) .byte, Cond.eq (.length (tmV i)) (.int (Int32.ofNat (sLen.getD i 0)))] ++ (List.range (sLen.getD i 0)).map (fun j => Cond.eq (.elem (tmV i) (.int (Int32.ofNat j))) (.int ((sByt.getD i []).getD j 0)))
theorem u_str : ∀ i : Nat, i < 7 → (gN.drop ([215, 225, 239, 251, 262, 276, 293].getD i 0)).take (4 + sLen.getD i 0) = sM i := by decide +kernel
theorem u_ex : ∀ i : Nat, i < 7 → Cond.exactly (tmS i) "java/lang/String" ∈ gN := fun i hi => u_slice (u_str i hi) (List.mem_append_left _ (List.mem_of_getElem? (i := 0) rfl))
theorem u_co : ∀ i : Nat, i < 7 → Cond.eq (.field (tmS i) "java/lang/String" "coder" "B") (.int 0) ∈ gN := fun i hi => u_slice (u_str i hi) (List.mem_append_left _ (List.mem_of_getElem? (i := 1) rfl))
theorem u_ar : ∀ i : Nat, i < 7 → Cond.arrayOf (tmV i) .byte ∈ gN := fun i hi => u_slice (u_str i hi) (List.mem_append_left _ (List.mem_of_getElem? (i := 2) rfl))
theorem u_le : ∀ i : Nat, i < 7 → Cond.eq (.length (tmV i)) (.int (Int32.ofNat (sLen.getD i 0))) ∈ gN := fun i hi => u_slice (u_str i hi) (List.mem_append_left _ (List.mem_of_getElem? (i := 3) rfl))
theorem u_el : ∀ i : Nat, i < 7 → ∀ j : Nat, j < sLen.getD i 0 → Cond.eq (.elem (tmV i) (.int (Int32.ofNat j))) (.int ((sByt.getD i []).getD j 0)) ∈ gN := fun i hi j hj => u_slice (u_str i hi) (List.mem_append_right _ (List.mem_map.mpr ⟨j, List.mem_range.mpr hj, rfl⟩))
theorem u_ne1 : ∀ j : Nat, j < 7 → (gN.drop ([0, 238, 249, 259, 272, 288, 306].getD j 0)).take j = (List.range j).map (fun i => Cond.not (Cond.eq (tmS i) (tmS j))) := by decide +kernel
theorem u_ne : ∀ i : Nat, i < 7 → ∀ j : Nat, j < 7 → i ≠ j → Cond.not (Cond.eq (tmS i) (tmS j)) ∈ gN ∨ Cond.not (Cond.eq (tmS j) (tmS i)) ∈ gN := fun i hi j hj h => by
  rcases Nat.lt_or_ge i j with q | q
  · exact Or.inl (u_slice (u_ne1 j hj) (List.mem_map.mpr ⟨i, List.mem_range.mpr q, rfl⟩))
  · exact Or.inr (u_slice (u_ne1 i hi) (List.mem_map.mpr ⟨j, List.mem_range.mpr (by omega), rfl⟩))
theorem u_sr : ∀ i : Nat, i < 7 → Cond.stringRef "SpriteAtlas" (sKey.getD i 0) (sTx.getD i "") ∈ tables_1 := fun i hi => by
  rcases (show i = 0 ∨ i = 1 ∨ i = 2 ∨ i = 3 ∨ i = 4 ∨ i = 5 ∨ i = 6 by omega) with rfl | rfl | rfl | rfl | rfl | rfl | rfl
  · exact List.mem_of_getElem? (i := 1155) (by decide +kernel)
  · exact List.mem_of_getElem? (i := 1194) (by decide +kernel)
  · exact List.mem_of_getElem? (i := 1199) (by decide +kernel)
  · exact List.mem_of_getElem? (i := 1201) (by decide +kernel)
  · exact List.mem_of_getElem? (i := 1204) (by decide +kernel)
  · exact List.mem_of_getElem? (i := 1205) (by decide +kernel)
  · exact List.mem_of_getElem? (i := 1207) (by decide +kernel)
theorem u_nn : ∀ q ∈ nNest, Cond.methodLinkNest q.1 q.2.1 q.2.2 "SpriteAtlas" ∈ tables_1 := fun q hq => by
  rcases List.mem_cons.mp hq with rfl | hq
  · exact List.mem_of_getElem? (i := 36) (by decide +kernel)
  rcases List.mem_cons.mp hq with rfl | hq
  · exact List.mem_of_getElem? (i := 254) (by decide +kernel)
  rcases List.mem_cons.mp hq with rfl | hq
  · exact List.mem_of_getElem? (i := 257) (by decide +kernel)
  rcases List.mem_cons.mp hq with rfl | hq
  · exact List.mem_of_getElem? (i := 90) (by decide +kernel)
  rcases List.mem_cons.mp hq with rfl | hq
  · exact List.mem_of_getElem? (i := 96) (by decide +kernel)
  rcases List.mem_cons.mp hq with rfl | hq
  · exact List.mem_of_getElem? (i := 127) (by decide +kernel)
  rcases List.mem_cons.mp hq with rfl | hq
  · exact List.mem_of_getElem? (i := 296) (by decide +kernel)
  rcases List.mem_cons.mp hq with rfl | hq
  · exact List.mem_of_getElem? (i := 321) (by decide +kernel)
  exact absurd hq List.not_mem_nil
theorem st_sel {s : State} {args : Array Value} (hts : ∀ w ∈ lw_tbl, w.before args s = true) : ∀ y ∈ sPrv, (Cond.selects RJ4 y y).before #[] s = true := by
  have key : ∀ y ∈ sPrv, (Cond.selects RJ4 y y).before args s = true := by
    intro y hy
    rcases List.mem_cons.mp hy with rfl | hy
    · exact s_selQ (n := 4) (hts _ (h_tb (i := 50) (by decide +kernel))) (hts _ (h_tb (i := 1875) (by decide +kernel))) (hts _ (h_tb (i := 1022) (by decide +kernel))) (hts _ (h_tb (i := 1023) (by decide +kernel)))
    rcases List.mem_cons.mp hy with rfl | hy
    · exact s_selQ (n := 4) (hts _ (h_tb (i := 50) (by decide +kernel))) (hts _ (h_tb (i := 1876) (by decide +kernel))) (hts _ (h_tb (i := 1026) (by decide +kernel))) (hts _ (h_tb (i := 1027) (by decide +kernel)))
    rcases List.mem_cons.mp hy with rfl | hy
    · exact s_selQ (n := 4) (hts _ (h_tb (i := 50) (by decide +kernel))) (hts _ (h_tb (i := 1882) (by decide +kernel))) (hts _ (h_tb (i := 1180) (by decide +kernel))) (hts _ (h_tb (i := 1181) (by decide +kernel)))
    rcases List.mem_cons.mp hy with rfl | hy
    · exact s_selQ (n := 4) (hts _ (h_tb (i := 50) (by decide +kernel))) (hts _ (h_tb (i := 1883) (by decide +kernel))) (hts _ (h_tb (i := 1184) (by decide +kernel))) (hts _ (h_tb (i := 1185) (by decide +kernel)))
    exact absurd hy List.not_mem_nil
  exact fun y hy => word_at (State.WarmedH.refl s) (Or.inl (sPrv_ok y hy)) (key y hy)
set_option maxHeartbeats 4000000 in
theorem st_E {s : State} {b : Addr} (hts : ∀ w ∈ lw_tbl, w.before #[Value.ref b] s = true) (hgv : (Jvm.Cond.and given_1 narrow_1).before #[Value.ref b] s = true) : ∃ (t1 t2 : Nat) (adK adV : Nat → Nat), e_St t1 t2 adK adV (fun q => s.heap.size ≤ q) s s.heap ∧ e_In (fun q => s.heap.size ≤ q) s s.heap := by
  have hs := flat_of_before _ hgv
  have hA0 : ∀ a : Nat, a < s.heap.size → ¬ (fun q : Nat => s.heap.size ≤ q) a := fun a h => Nat.not_le.mpr h
  have z1 : va_Z "java/lang/String" "COMPACT_STRINGS" "Z" (.int 1) (fun q : Nat => s.heap.size ≤ q) s s.heap := va_Zof (hts _ (h_tb (i := 59) (by decide +kernel))) (hts _ (h_tb (i := 5) (by decide +kernel))) (va_eqi (hs _ (h_gn (i := 4) (by decide +kernel)))) hA0
  obtain ⟨t1, h1, T1⟩ := va_Tof (tm := .static "java/lang/Integer" "DigitOnes" "[B") (ty := .byte) (N := 100) (f := fun j => .int (nI (48 + j % 10))) (A := fun q : Nat => s.heap.size ≤ q) (by decide) (hs _ (h_gn (i := 6) (by decide +kernel))) (va_eqt (hs _ (h_gn (i := 7) (by decide +kernel)))) (fun j hj => va_eqt (hs _ (u_ones0 j hj))) hA0
  obtain ⟨t2, h2, T2⟩ := va_Tof (tm := .static "java/lang/Integer" "DigitTens" "[B") (ty := .byte) (N := 100) (f := fun j => .int (nI (48 + j / 10))) (A := fun q : Nat => s.heap.size ≤ q) (by decide) (hs _ (h_gn (i := 109) (by decide +kernel))) (va_eqt (hs _ (h_gn (i := 110) (by decide +kernel)))) (fun j hj => va_eqt (hs _ (u_tens0 j hj))) hA0
  have y1 : va_Z "java/lang/Integer" "DigitOnes" "[B" (.ref t1) (fun q : Nat => s.heap.size ≤ q) s s.heap := va_Zof (hts _ (h_tb (i := 1079) (by decide +kernel))) (hts _ (h_tb (i := 24) (by decide +kernel))) h1 hA0
  have y2 : va_Z "java/lang/Integer" "DigitTens" "[B" (.ref t2) (fun q : Nat => s.heap.size ≤ q) s s.heap := va_Zof (hts _ (h_tb (i := 1081) (by decide +kernel))) (hts _ (h_tb (i := 24) (by decide +kernel))) h2 hA0
  have y3 : va_Zq "jdk/internal/util/Preconditions" "SIOOBE_FORMATTER" "Ljava/util/function/BiFunction;" (fun q : Nat => s.heap.size ≤ q) s s.heap := va_Zqof (hts _ (h_tb (i := 1095) (by decide +kernel))) (hts _ (h_tb (i := 25) (by decide +kernel))) (hs _ (h_gn (i := 211) (by decide +kernel))) hA0
  obtain ⟨adK, adV, hS, hR⟩ := vk_Sof (args := #[Value.ref b]) (s := s) (N := 7) (tm := tmS) (len := sLen) (byt := sByt) (A := fun q : Nat => s.heap.size ≤ q) (by decide) (fun i hi => hs _ (u_ex i hi)) (fun i hi => hs _ (u_co i hi)) (fun i hi => hs _ (u_ar i hi)) (fun i hi => hs _ (u_le i hi)) (fun i hi j hj => hs _ (u_el i hi j hj)) (fun i j hi hj hij => by
    rcases u_ne i hi j hj hij with h | h
    · exact Or.inl (hs _ h)
    · exact Or.inr (hs _ h)) hA0
  refine ⟨t1, t2, adK, adV, ⟨z1, ⟨y1, T1⟩, ⟨y2, T2⟩, y3, hS, fun i hi => vk_R.of (hts _ (h_tm (u_sr i hi))) (hR i hi), st_sel hts⟩, z1, va_AO.of (hts _ (h_tb (i := 88) (by decide +kernel))), fun q hq => va_Nw.of rfl (hts _ (h_tm (u_nn q hq)))⟩
set_option maxHeartbeats 4000000 in
theorem st_K {s : State} {args : Array Value} (hts : ∀ w ∈ lw_tbl, w.before args s = true) (hT : ∀ w ∈ g_ws, w.before args s = true) : ∃ (D : va_G) (g : Nat → ClassId), va_K D g_cl (g_tys g) s := by
  obtain ⟨c0, i0, k0⟩ := u_known (C := RJ4) (T := TJ4) (N := 4) (n := 4) hT in_J4 (hT _ (g_tb (i := 50) (by decide +kernel) (by decide)))
  obtain ⟨c1, i1, k1⟩ := u_known (C := RX0) (T := TX0) (N := 6) (n := 6) hT in_X0 (hT _ (g_tb (i := 256) (by decide +kernel) (by decide)))
  obtain ⟨c2, i2, k2⟩ := u_known (C := RX1) (T := TX1) (N := 7) (n := 7) hT in_X1 (hT _ (g_tb (i := 320) (by decide +kernel) (by decide)))
  obtain ⟨c3, i3, k3⟩ := u_known (C := RX2) (T := TX2) (N := 3) (n := 3) hT in_X2 (hT _ (g_tb (i := 82) (by decide +kernel) (by decide)))
  obtain ⟨c4, i4, k4⟩ := u_known (C := RX3) (T := TX3) (N := 5) (n := 5) hT in_X3 (hT _ (g_tb (i := 289) (by decide +kernel) (by decide)))
  obtain ⟨c5, i5, k5⟩ := u_known (C := RX4) (T := TX4) (N := 6) (n := 6) hT in_X4 (hT _ (g_tb (i := 189) (by decide +kernel) (by decide)))
  obtain ⟨c6, i6, k6⟩ := u_known (C := RX5) (T := TX5) (N := 12) (n := 12) hT in_X5 (hT _ (g_tb (i := 126) (by decide +kernel) (by decide)))
  obtain ⟨c7, i7, k7⟩ := u_known (C := RX6) (T := TX6) (N := 5) (n := 5) hT in_X6 (hT _ (g_tb (i := 95) (by decide +kernel) (by decide)))
  obtain ⟨c8, i8, k8⟩ := u_known (C := RX7) (T := TX7) (N := 5) (n := 5) hT in_X7 (hT _ (g_tb (i := 295) (by decide +kernel) (by decide)))
  obtain ⟨c9, i9, k9⟩ := u_known (C := RX8) (T := TX8) (N := 3) (n := 3) hT in_X8 (hT _ (g_tb (i := 89) (by decide +kernel) (by decide)))
  obtain ⟨c10, i10, k10⟩ := u_known (C := RX9) (T := TX9) (N := 2) (n := 2) hT in_X9 (hT _ (g_tb (i := 35) (by decide +kernel) (by decide)))
  obtain ⟨c11, i11, k11⟩ := u_known (C := RX10) (T := TX10) (N := 12) (n := 12) hT in_X10 (hT _ (g_tb (i := 27) (by decide +kernel) (by decide)))
  obtain ⟨c12, i12, k12⟩ := u_known (C := RX11) (T := TX11) (N := 38) (n := 38) hT in_X11 (hT _ (g_tb (i := 1275) (by decide +kernel) (by decide)))
  obtain ⟨ai, kai, mai, fai, hai, qai⟩ := Cond.arrayClass_spec (type := .int) (hts _ (h_tb (i := 48) (by decide +kernel)))
  obtain ⟨az, kaz, maz, faz, haz, qaz⟩ := Cond.arrayClass_spec (type := .boolean) (hts _ (h_tb (i := 225) (by decide +kernel)))
  obtain ⟨al, kal, mal, fal, hal, qal⟩ := Cond.arrayClass_spec (type := .long) (hts _ (h_tb (i := 318) (by decide +kernel)))
  obtain ⟨ab, kab, mab, fab, hab, qab⟩ := Cond.arrayClass_spec (type := .byte) (hts _ (h_tb (i := 80) (by decide +kernel)))
  obtain ⟨mo, ao, ko, fo, -, ho, qo, no⟩ := Cond.arrayOver_spec (n := "SpriteAtlas$State") (hts _ (h_tb (i := 88) (by decide +kernel)))
  refine ⟨(fun k => [c0, c1, c2, c3, c4, c5, c6, c7, c8, c9, c10, c11, c12].getD k c0, fun k => [i0, i1, i2, i3, i4, i5, i6, i7, i8, i9, i10, i11, i12].getD k i0), fun k => [ai, az, al, ao, ab].getD k ai, fun k q hq => ?_, fun k q hq => ?_⟩
  · match k, hq with
    | 0, hq => cases hq; exact k0
    | 1, hq => cases hq; exact k1
    | 2, hq => cases hq; exact k2
    | 3, hq => cases hq; exact k3
    | 4, hq => cases hq; exact k4
    | 5, hq => cases hq; exact k5
    | 6, hq => cases hq; exact k6
    | 7, hq => cases hq; exact k7
    | 8, hq => cases hq; exact k8
    | 9, hq => cases hq; exact k9
    | 10, hq => cases hq; exact k10
    | 11, hq => cases hq; exact k11
    | 12, hq => cases hq; exact k12
    | k + 13, hq => simp [g_cl] at hq
  · match k, hq with
    | 0, hq => cases hq; exact ⟨fun N z => ⟨(fun k h => by cases h), kai, hai, mai, qai⟩, fai⟩
    | 1, hq => cases hq; exact ⟨fun N z => ⟨(fun k h => by cases h), kaz, haz, maz, qaz⟩, faz⟩
    | 2, hq => cases hq; exact ⟨fun N z => ⟨(fun k h => by cases h), kal, hal, mal, qal⟩, fal⟩
    | 3, hq => cases hq; exact ⟨fun N z => ⟨(fun k h => by cases h), ko, ho, mo, qo⟩, ko, mo, ho, qo, fo, no⟩
    | 4, hq => cases hq; exact ⟨fun N z => ⟨(fun k h => by cases h), kab, hab, mab, qab⟩, fab⟩
    | k + 5, hq => simp [g_tys] at hq
