section RowsB
variable {p : Program} {l : Launch} {e : Env} {R : Room} {s : State} {m : MethodId} {args : Array Value} {below : List Frame} {meth : Method} {c : Code} {H : Heap} {locs : List Loc} {cells slots : Nat} {Q : State → Prop}
variable {cc : ByteArray} {pc : Nat} {ls : Array Slot} {rest st st2 : List Value} {D : va_G} {g : Nat → ClassId} {A : Nat → Prop} {wb wb' cb cb' : List va_W} {B B' : va_W} {a : Nat}
theorem b_get (hx : p.tables.exec = Jvm.exec) (hb : c.code = cc) (hT : ∀ w ∈ g_ws, w.before args s = true) (hK : va_K D g_cl (g_tys g) s) {own C : String} (hown : s.vm.findClass own = some m.cls) {index ci k N : Nat} {T : u_T} (hf : g_FL own index ci k C T N) (hw : b_Wd D A s.heap H locs wb) (b j : Nat) (hB : wb[b]? = some B) {fs : List Value} (he : B[j]? = some (a, .inr (ci, fs))) {v : Value} (hv : fs[k]? = some v) (hdg : decode cc pc = .ok (.getfield index, 3))
    (kk : W p l e R s m args below meth c H locs cells slots Q (F0 m (pc + 3) ls (v :: rest))) : W p l e R s m args below meth c H locs cells slots Q (F0 m pc ls (.ref a :: rest)) :=
  va_get (D := D) (C := C) (T := T) (N := N) hx hb hT hf.2.2.1 hown hK (b_P_flat hw.1) (b_pos wb b j) (b_pos_get wb b j B _ hB he) hf.1 k hf.2.1 (hT _ hf.2.2.2.1) (fun _ h9 => by rw [hf.2.2.2.2] at h9; exact h9) hv hdg kk
theorem b_wset {H1 : Heap} {locs1 : List Loc} {b j : Nat} {e0 : va_E} {c1 : Nat × va_E} (hB : wb[b]? = some B) (he : B[j]? = some (a, e0)) (hset : B.set j c1 = B') (hwb : wb.set b B' = wb') (a1 : va_P D g_cl (wb.flatten.set (b_pos wb b j) c1) H1) (a2 : va_D A (wb.flatten.set (b_pos wb b j) c1)) (a3 : va_S A s.heap H1 locs1) : b_Wd D A s.heap H1 locs1 wb' := by
  subst hset; subst hwb
  rw [b_set wb b j B _ hB (b_lt he)] at a1 a2
  exact ⟨b_P_of a1, b_D_of a2, a3⟩
theorem b_putf (hx : p.tables.exec = Jvm.exec) (hb : c.code = cc) (hT : ∀ w ∈ g_ws, w.before args s = true) (hK : va_K D g_cl (g_tys g) s) {own C : String} (hown : s.vm.findClass own = some m.cls) {index ci k N : Nat} {T : u_T} (hf : g_FL own index ci k C T N) {ty0 : Nat → FieldType} (hft : g_FT C T N ty0) (hw : b_Wd D A s.heap H locs wb) (b j : Nat) (hB : wb[b]? = some B) {fs : List Value} (he : B[j]? = some (a, .inr (ci, fs))) (hfin : (T k).2.2.2 = false) {v : Value} (hn : narrow (ty0 k) v = v) (hfit : fits (ty0 k) v = true) (hl : k < fs.length) (hset : B.set j (a, .inr (ci, fs.set k v)) = B') (hwb : wb.set b B' = wb') (hdg : decode cc pc = .ok (.putfield index, 3))
    (kk : ∀ (H1 : Heap) (locs1 : List Loc), b_Wd D A s.heap H1 locs1 wb' → W p l e R s m args below meth c H1 locs1 cells slots Q (F0 m (pc + 3) ls rest)) : W p l e R s m args below meth c H locs cells slots Q (F0 m pc ls (v :: .ref a :: rest)) :=
  va_put (D := D) (C := C) (T := T) (N := N) hx hb hT hf.2.2.1 ty0 hft.1 hft.2 hown hK (b_P_flat hw.1) (b_D_flat hw.2.1) hw.2.2 (b_pos wb b j) (b_pos_get wb b j B _ hB he) hf.1 k hf.2.1 (hT _ hf.2.2.2.1) (fun _ h9 => by rw [hf.2.2.2.2] at h9; exact h9) hfin (hft.1 k hf.2.1) hn hfit hl hdg (fun H1 locs1 a1 a2 a3 => kk H1 locs1 (b_wset hB he hset hwb a1 a2 a3))
theorem b_iald (hx : p.tables.exec = Jvm.exec) (hb : c.code = cc) (hK : va_K D g_cl (g_tys g) s) (hw : b_Wd D A s.heap H locs wb) (b j : Nat) (hB : wb[b]? = some B) {n : Nat} {f : Nat → Int32} (ha : B[j]? = some (a, .inl (g 0, n, .inl f))) {i : Int32} {x : Int32} (hi : vp_in i n) (hv : x = f i.toNatClampNeg) (hdg : decode cc pc = .ok (.iaload, 1))
    (kk : W p l e R s m args below meth c H locs cells slots Q (F0 m (pc + 1) ls (.int x :: rest))) : W p l e R s m args below meth c H locs cells slots Q (F0 m pc ls (.int i :: .ref a :: rest)) := by
  subst hv
  exact va_iald hx hb hK (b_P_flat hw.1) (b_pos wb b j) 0 (b_pos_get wb b j B _ hB ha) rfl hi hdg kk
theorem b_zald (hx : p.tables.exec = Jvm.exec) (hb : c.code = cc) (hK : va_K D g_cl (g_tys g) s) (hw : b_Wd D A s.heap H locs wb) (b j : Nat) (hB : wb[b]? = some B) {n : Nat} {f : Nat → Int32} (ha : B[j]? = some (a, .inl (g 1, n, .inl f))) {i : Int32} {x : Int32} (hi : vp_in i n) (hv : x = f i.toNatClampNeg) (hdg : decode cc pc = .ok (.baload, 1))
    (kk : W p l e R s m args below meth c H locs cells slots Q (F0 m (pc + 1) ls (.int x :: rest))) : W p l e R s m args below meth c H locs cells slots Q (F0 m pc ls (.int i :: .ref a :: rest)) := by
  subst hv
  exact va_zald hx hb hK (b_P_flat hw.1) (b_pos wb b j) 1 (b_pos_get wb b j B _ hB ha) rfl hi hdg kk
theorem b_lald (hx : p.tables.exec = Jvm.exec) (hb : c.code = cc) (hK : va_K D g_cl (g_tys g) s) (hw : b_Wd D A s.heap H locs wb) (b j : Nat) (hB : wb[b]? = some B) {n : Nat} {f : Nat → Int64} (ha : B[j]? = some (a, .inl (g 2, n, .inr (.inl f)))) {i : Int32} {x : Int64} (hi : vp_in i n) (hv : x = f i.toNatClampNeg) (hdg : decode cc pc = .ok (.laload, 1))
    (kk : W p l e R s m args below meth c H locs cells slots Q (F0 m (pc + 1) ls (.long x :: rest))) : W p l e R s m args below meth c H locs cells slots Q (F0 m pc ls (.int i :: .ref a :: rest)) := by
  subst hv
  exact va_lald hx hb hK (b_P_flat hw.1) (b_pos wb b j) 2 (b_pos_get wb b j B _ hB ha) rfl hi hdg kk
theorem b_iast (hx : p.tables.exec = Jvm.exec) (hb : c.code = cc) (hK : va_K D g_cl (g_tys g) s) (hw : b_Wd D A s.heap H locs wb) (b j : Nat) (hB : wb[b]? = some B) {n : Nat} {f f1 : Nat → Int32} (ha : B[j]? = some (a, .inl (g 0, n, .inl f))) {i : Int32} {x : Int32} (hi : vp_in i n) (hv : f1 = upd f i.toNatClampNeg x) (hset : B.set j (a, .inl (g 0, n, .inl f1)) = B') (hwb : wb.set b B' = wb') (hdg : decode cc pc = .ok (.iastore, 1))
    (kk : ∀ (H1 : Heap) (locs1 : List Loc), b_Wd D A s.heap H1 locs1 wb' → W p l e R s m args below meth c H1 locs1 cells slots Q (F0 m (pc + 1) ls rest)) : W p l e R s m args below meth c H locs cells slots Q (F0 m pc ls (.int x :: .int i :: .ref a :: rest)) := by
  subst hv
  exact va_iast hx hb hK (b_P_flat hw.1) (b_D_flat hw.2.1) hw.2.2 (b_pos wb b j) 0 (b_pos_get wb b j B _ hB ha) rfl hi hdg (fun H1 locs1 a1 a2 a3 => kk H1 locs1 (b_wset hB ha hset hwb a1 a2 a3))
theorem b_zast (hx : p.tables.exec = Jvm.exec) (hb : c.code = cc) (hK : va_K D g_cl (g_tys g) s) (hw : b_Wd D A s.heap H locs wb) (b j : Nat) (hB : wb[b]? = some B) {n : Nat} {f f1 : Nat → Int32} (ha : B[j]? = some (a, .inl (g 1, n, .inl f))) {i : Int32} {x : Int32} (hi : vp_in i n) (hv : f1 = upd f i.toNatClampNeg (vp_nar .boolean x)) (hset : B.set j (a, .inl (g 1, n, .inl f1)) = B') (hwb : wb.set b B' = wb') (hdg : decode cc pc = .ok (.bastore, 1))
    (kk : ∀ (H1 : Heap) (locs1 : List Loc), b_Wd D A s.heap H1 locs1 wb' → W p l e R s m args below meth c H1 locs1 cells slots Q (F0 m (pc + 1) ls rest)) : W p l e R s m args below meth c H locs cells slots Q (F0 m pc ls (.int x :: .int i :: .ref a :: rest)) := by
  subst hv
  exact va_zast hx hb hK (b_P_flat hw.1) (b_D_flat hw.2.1) hw.2.2 (b_pos wb b j) 1 (b_pos_get wb b j B _ hB ha) rfl hi hdg (fun H1 locs1 a1 a2 a3 => kk H1 locs1 (b_wset hB ha hset hwb a1 a2 a3))
theorem b_last (hx : p.tables.exec = Jvm.exec) (hb : c.code = cc) (hK : va_K D g_cl (g_tys g) s) (hw : b_Wd D A s.heap H locs wb) (b j : Nat) (hB : wb[b]? = some B) {n : Nat} {f f1 : Nat → Int64} (ha : B[j]? = some (a, .inl (g 2, n, .inr (.inl f)))) {i : Int32} {x : Int64} (hi : vp_in i n) (hv : f1 = vp_updL f i.toNatClampNeg x) (hset : B.set j (a, .inl (g 2, n, .inr (.inl f1))) = B') (hwb : wb.set b B' = wb') (hdg : decode cc pc = .ok (.lastore, 1))
    (kk : ∀ (H1 : Heap) (locs1 : List Loc), b_Wd D A s.heap H1 locs1 wb' → W p l e R s m args below meth c H1 locs1 cells slots Q (F0 m (pc + 1) ls rest)) : W p l e R s m args below meth c H locs cells slots Q (F0 m pc ls (.long x :: .int i :: .ref a :: rest)) := by
  subst hv
  exact va_last hx hb hK (b_P_flat hw.1) (b_D_flat hw.2.1) hw.2.2 (b_pos wb b j) 2 (b_pos_get wb b j B _ hB ha) rfl hi hdg (fun H1 locs1 a1 a2 a3 => kk H1 locs1 (b_wset hB ha hset hwb a1 a2 a3))
theorem b_alen (hx : p.tables.exec = Jvm.exec) (hb : c.code = cc) (hK : va_K D g_cl (g_tys g) s) (hw : b_Wd D A s.heap H locs wb) (b j t0 : Nat) (hB : wb[b]? = some B) {cA : ClassId} {ty : FieldType} {x : vp_A} (ha : B[j]? = some (a, .inl (cA, x))) (ht : (g_tys g)[t0]? = some (cA, ty)) {v : Int32} (hv : Int32.ofNat x.1 = v) (hdg : decode cc pc = .ok (.arraylength, 1))
    (kk : W p l e R s m args below meth c H locs cells slots Q (F0 m (pc + 1) ls (.int v :: rest))) : W p l e R s m args below meth c H locs cells slots Q (F0 m pc ls (.ref a :: rest)) :=
  va_alen hx hb hK (b_P_flat hw.1) (b_pos wb b j) t0 (b_pos_get wb b j B _ hB ha) ht hv hdg kk
theorem b_aald (hx : p.tables.exec = Jvm.exec) (hb : c.code = cc) (hK : va_K D g_cl (g_tys g) s) (hw : b_Wd D A s.heap H locs wb) (b j : Nat) (hB : wb[b]? = some B) {n : Nat} {f : Nat → Option Nat} (ha : B[j]? = some (a, .inl (g 3, n, .inr (.inr (.inr (.inr f)))))) {i : Int32} {x : Nat} (hi : vp_in i n) (hv : f i.toNatClampNeg = some x) (hdg : decode cc pc = .ok (.aaload, 1))
    (kk : W p l e R s m args below meth c H locs cells slots Q (F0 m (pc + 1) ls (.ref x :: rest))) : W p l e R s m args below meth c H locs cells slots Q (F0 m pc ls (.int i :: .ref a :: rest)) :=
  va_aldq (C := "SpriteAtlas$State") hx hb hK (b_P_flat hw.1) (b_pos wb b j) 3 (b_pos_get wb b j B _ hB ha) rfl hi hdg (by rw [hv]; exact kk)
theorem b_iret {rv : Option Value} {v : Int32} (hQ : Q = b_M D A wb' rv below args s) (hx : p.tables.exec = Jvm.exec) (hb : c.code = cc) (hr : meth.sig.returnType = some .int) (hlocks : meth.locks = false) (hw : b_Wd D A s.heap H locs wb') (hrv : rv = some (.int v)) (hdg : decode cc pc = .ok (.ireturn, 1)) : W p l e R s m args below meth c H locs 0 0 Q (F0 m pc ls [.int v]) := by
  subst hrv; subst hQ
  exact W.iret hx hb hr (fun t ht _ => ⟨⟨rfl, by rw [ht]; exact hw.1⟩, hw.2.2.F ht⟩) hw.2.2.2.2 hdg hlocks
theorem b_zret {rv : Option Value} {v : Int32} (hQ : Q = b_M D A wb' rv below args s) (hx : p.tables.exec = Jvm.exec) (hb : c.code = cc) (hr : meth.sig.returnType = some .boolean) (hlocks : meth.locks = false) (hz : v = 0 ∨ v = 1) (hw : b_Wd D A s.heap H locs wb') (hrv : rv = some (.int v)) (hdg : decode cc pc = .ok (.ireturn, 1)) : W p l e R s m args below meth c H locs 0 0 Q (F0 m pc ls [.int v]) := by
  subst hrv; subst hQ
  exact W.zret hx hb hr (by rcases hz with rfl | rfl <;> rfl) (fun t ht _ => ⟨⟨rfl, by rw [ht]; exact hw.1⟩, hw.2.2.F ht⟩) hw.2.2.2.2 hdg hlocks
theorem b_lret {rv : Option Value} {v : Int64} (hQ : Q = b_M D A wb' rv below args s) (hx : p.tables.exec = Jvm.exec) (hb : c.code = cc) (hr : meth.sig.returnType = some .long) (hlocks : meth.locks = false) (hw : b_Wd D A s.heap H locs wb') (hrv : rv = some (.long v)) (hdg : decode cc pc = .ok (.lreturn, 1)) : W p l e R s m args below meth c H locs 0 0 Q (F0 m pc ls [.long v]) := by
  subst hrv; subst hQ
  exact W.lret hx hb hr (fun t ht _ => ⟨⟨rfl, by rw [ht]; exact hw.1⟩, hw.2.2.F ht⟩) hw.2.2.2.2 hdg hlocks
theorem b_vret {rv : Option Value} (hQ : Q = b_M D A wb' rv below args s) (hx : p.tables.exec = Jvm.exec) (hb : c.code = cc) (hr : meth.sig.returnType = none) (hlocks : meth.locks = false) (hw : b_Wd D A s.heap H locs wb') (hrv : rv = none) (hdg : decode cc pc = .ok (.return_, 1)) : W p l e R s m args below meth c H locs 0 0 Q (F0 m pc ls []) := by
  subst hrv; subst hQ
  exact W.vret hx hb hr (fun t ht _ => ⟨⟨rfl, by rw [ht]; exact hw.1⟩, hw.2.2.F ht⟩) hw.2.2.2.2 hdg hlocks
theorem b_aret {rv : Option Value} {x : Nat} {n : String} (hQ : Q = b_M D A wb' rv below args s) (hx : p.tables.exec = Jvm.exec) (hb : c.code = cc) (hr : meth.sig.returnType = some (.object n)) (hlocks : meth.locks = false) (hw : b_Wd D A s.heap H locs wb') (hrv : rv = some (.ref x)) (hdg : decode cc pc = .ok (.areturn, 1)) : W p l e R s m args below meth c H locs 0 0 Q (F0 m pc ls [.ref x]) := by
  subst hrv; subst hQ
  exact W.aret hx hb hr (Or.inl ⟨_, rfl⟩) (Or.inr ⟨_, rfl⟩) (fun t ht _ => ⟨⟨rfl, by rw [ht]; exact hw.1⟩, hw.2.2.F ht⟩) hw.2.2.2.2 hdg hlocks
theorem b_copyi (hx : p.tables.exec = Jvm.exec) (hb : c.code = cc) {nL : Nat} (hml : c.maxLocals = nL) (hls : ls.size = nL) {own : String} {index : Nat} (hown : s.vm.findClass own = some m.cls) (hT : ∀ w ∈ g_ws, w.before args s = true) (hK : va_K D g_cl (g_tys g) s) (hw : b_Wd D A s.heap H locs wb) (hlink : Cond.methodLink own index arraycopyName ∈ g_ws) (hnat : Cond.native arraycopyName ∈ g_ws) (hstat : Cond.static arraycopyName ∈ g_ws) (hini : Cond.initialized "java/lang/System" ∈ g_ws)
    (b0 j0 b1 j1 t0 : Nat) {B0 B1 : va_W} {a0 : Nat} {n0 n1 : Nat} {f f1 f2 : Nat → Int32} {ty : FieldType} (ht : (g_tys g)[t0]? = some (g t0, ty)) (hB0 : wb[b0]? = some B0) (ha0 : B0[j0]? = some (a0, .inl (g t0, n0, .inl f))) (hB1 : wb[b1]? = some B1) (ha1 : B1[j1]? = some (a, .inl (g t0, n1, .inl f1))) (hprim : refKind ty = false)
    {sp dp n : Int32} (hok : g_cpyOk n0 n1 sp dp n) (hfit : ∀ i, i < n.toNatClampNeg → fits ty (.int (f (sp.toNatClampNeg + i))) = true) (hv : f2 = va_cpy f f1 sp.toNatClampNeg dp.toNatClampNeg n.toNatClampNeg) (hset : B1.set j1 (a, .inl (g t0, n1, .inl f2)) = B') (hwb : wb.set b1 B' = wb')
    (hframes : 1 ≤ R.frames) (hlocals : (rest.map fun v => v.category).sum + (nativeFrameWords "java/lang/System" "arraycopy" 5 + 11) ≤ R.locals) (hdg : decode cc pc = .ok (.invokestatic index, 3))
    (kk : ∀ (H1 : Heap) (locs1 : List Loc), b_Wd D A s.heap H1 locs1 wb' → W p l e R s m args below meth c H1 locs1 cells slots Q (F0 m (pc + 3) ls rest)) : W p l e R s m args below meth c H locs cells slots Q (F0 m pc ls (.int n :: .int dp :: .ref a :: .int sp :: .ref a0 :: rest)) := by
  subst hv
  unfold g_cpyOk at hok
  exact va_copyi hx hb (by rw [hls]; exact hml) hown (hT _ hlink) (hT _ hnat) (hT _ hstat) (hT _ hini) hK (b_P_flat hw.1) (b_D_flat hw.2.1) hw.2.2 (b_pos wb b0 j0) (b_pos wb b1 j1) t0 t0 (b_pos_get wb b0 j0 B0 _ hB0 ha0) (b_pos_get wb b1 j1 B1 _ hB1 ha1) ht ht hprim (fun z => hok (Or.inl z)) (fun z => hok (Or.inr (Or.inl z))) (fun z => hok (Or.inr (Or.inr (Or.inl z)))) (Nat.le_of_not_lt fun z => hok (Or.inr (Or.inr (Or.inr (Or.inl z))))) (Nat.le_of_not_lt fun z => hok (Or.inr (Or.inr (Or.inr (Or.inr z))))) hfit hframes hlocals hdg (fun H1 locs1 a1 a2 a3 => kk H1 locs1 (b_wset hB1 ha1 hset hwb a1 a2 a3))
theorem b_after {rv : Option Value} {av : Array Value} (hr : va_Run p l e R s m args below meth c H locs cells slots 0 0 (F0 m pc ls st) rest (b_Q D (va_A cb.flatten H.size) cb' rv av) (va_A cb.flatten H.size)) (hw : b_Wd D A s.heap H locs wb) (hA : ∀ q, s.heap.size ≤ q → A q) (isC isR : List Nat) (hC1 : isC.map (fun i => wb[i]?) = cb.map some) (hC2 : isC.map (fun i => wb'[i]?) = cb'.map some) (hR : b_eqs wb wb' isR) (hcov : ∀ k, k < wb'.length → k ∈ isC ∨ k ∈ isR) (hnd : va_nd isC = true) (hadr : cb'.map (List.map Prod.fst) = cb.map (List.map Prod.fst)) (hst2 : rv.toList ++ rest = st2)
    (kk : ∀ (H1 : Heap) (locs1 : List Loc), b_Wd D A s.heap H1 locs1 wb' → W p l e R s m args below meth c H1 locs1 cells slots Q (F0 m (pc + 3) ls st2)) : W p l e R s m args below meth c H locs cells slots Q (F0 m pc ls st) := by
  subst hst2
  obtain ⟨hP, hD, hS⟩ := hw
  have hDc := (b_sub hP hD isC hC1 hnd).2
  have hF : ∀ q, va_A cb.flatten H.size q → A q := by
    rintro q (⟨k, e9, hk⟩ | h)
    · exact (b_D_flat hDc).2 k _ hk
    · exact hA q (Nat.le_trans hS.1 h)
  intro T hT X
  obtain ⟨v, st₀, t, T', L, h0, X', hL, e1, e2, ⟨⟨hv, hp⟩, hz, hk⟩, stp⟩ := hr T hT X
  cases hv
  rw [h0] at hz hk
  obtain ⟨hP1, hD1⟩ := b_repl hP hD isC isR hC1 hC2 hR hcov hadr hk hp
  obtain ⟨t2, a1, b1⟩ := kk T'.heap (locs ++ L) ⟨by rw [e1]; exact hP1, hD1, ⟨Nat.le_trans hS.1 (by rw [e1]; exact hz), fun q h1 h2 => by rw [e1, hk q (Nat.lt_of_lt_of_le h1 hS.1) (fun z => h2 (hF q z))]; exact hS.2.1 q h1 h2, fun q hq => by
      rcases List.mem_append.mp hq with h | h
      · exact hS.2.2 q h
      · exact hF _ (hL q h)⟩⟩ T' rfl X'
  exact ⟨t2, stp t2 a1, b1⟩
theorem b_callV {own : String} {idx : Nat} {y : MethodName} {bc : ByteArray} {mL nL : Nat} {rt : Option FieldType} {fr lo n ci : Nat} {fs As : List Value} {rv : Option Value} {T : u_T} {N : Nat} (hx : p.tables.exec = Jvm.exec) (hb : c.code = cc) (hml : c.maxLocals = nL) (hown : s.vm.findClass own = some m.cls) (hT : ∀ w ∈ g_ws, w.before args s = true) (hK : va_K D g_cl (g_tys g) s) (hA : ∀ q, s.heap.size ≤ q → A q) (hw : b_Wd D A s.heap H locs wb)
    (hM : g_MV own idx y bc mL rt n) (hC : b_Ct l y bc mL rt fr lo D g (.ref a :: As) cb cb' rv) (isC isR : List Nat) (hC1 : isC.map (fun i => wb[i]?) = cb.map some) (hnd : va_nd isC = true) (b j : Nat) (hB : wb[b]? = some B) (he : B[j]? = some (a, .inr (ci, fs))) (hc : g_cl[ci]? = some (y.cls, T, N)) (hn : As.length = n) (hls : ls.size = nL) (rest : List Value) (hst : st = As.reverse ++ .ref a :: rest) (hrm : (rest.map fun v => v.category).sum ≤ 8) (hR : fr + 1 ≤ R.frames ∧ 8 + (mL + 11) + lo ≤ R.locals) (hRc : cells + 0 ≤ R.cells ∧ slots + 0 ≤ R.slots) (hdg : decode cc pc = .ok (.invokevirtual idx, 3)) (hC2 : isC.map (fun i => wb'[i]?) = cb'.map some) (hRr : b_eqs wb wb' isR) (len : Nat) (hlen : wb'.length = len) (hcov : (List.range len).all (fun k => isC.contains k || isR.contains k) = true) (hst2 : rv.toList ++ rest = st2)
    (kk : ∀ (H1 : Heap) (locs1 : List Loc), b_Wd D A s.heap H1 locs1 wb' → W p l e R s m args below meth c H1 locs1 cells slots Q (F0 m (pc + 3) ls st2)) : W p l e R s m args below meth c H locs cells slots Q (F0 m pc ls st) := by
  subst hst
  have hsub := b_sub hw.1 hw.2.1 isC hC1 hnd
  have hrm2 : 2 * (F0 m pc ls (As.reverse ++ .ref a :: rest)).monitorRoom + (rest.map fun v => v.category).sum ≤ 8 := lv_room hrm
  exact b_after (va_runV (As := As) (rest := rest) (C := y.cls) ⟨hx, hb, hml, hown, hT⟩ (hC.2 H.size) ⟨g_callB hT hM.1 hR, hT _ hM.2.1, hT _ hM.2.2⟩
    ⟨b_blind, va_recv hK (b_P_flat hw.1) hc (b_pos_get wb b j B _ hB he), fun U hU hW => ⟨rfl, by rw [hU], by rw [hU]; exact hsub.1, va_K.moved hW.alike hK, b_D_of ((b_D_flat hsub.2).weaken (fun _ _ _ _ => trivial))⟩⟩ rfl hn hls rfl hrm2 hdg hRc) hw hA isC isR hC1 hC2 hRr (hlen ▸ b_cov hcov) hnd hC.1 hst2 kk
theorem b_callS {own : String} {idx : Nat} {y : MethodName} {bc : ByteArray} {mL nL : Nat} {rt : Option FieldType} {fr lo n : Nat} {As : List Value} {rv : Option Value} (hx : p.tables.exec = Jvm.exec) (hb : c.code = cc) (hml : c.maxLocals = nL) (hown : s.vm.findClass own = some m.cls) (hT : ∀ w ∈ g_ws, w.before args s = true) (hK : va_K D g_cl (g_tys g) s) (hA : ∀ q, s.heap.size ≤ q → A q) (hw : b_Wd D A s.heap H locs wb)
    (hM : g_MS own idx y bc mL rt n) (hC : b_Ct l y bc mL rt fr lo D g As cb cb' rv) (isC isR : List Nat) (hC1 : isC.map (fun i => wb[i]?) = cb.map some) (hnd : va_nd isC = true) (hn : As.length = n) (hls : ls.size = nL) (rest : List Value) (hst : st = As.reverse ++ rest) (hrm : (rest.map fun v => v.category).sum ≤ 8) (hR : fr + 1 ≤ R.frames ∧ 8 + (mL + 11) + lo ≤ R.locals) (hRc : cells + 0 ≤ R.cells ∧ slots + 0 ≤ R.slots) (hdg : decode cc pc = .ok (.invokestatic idx, 3)) (hC2 : isC.map (fun i => wb'[i]?) = cb'.map some) (hRr : b_eqs wb wb' isR) (len : Nat) (hlen : wb'.length = len) (hcov : (List.range len).all (fun k => isC.contains k || isR.contains k) = true) (hst2 : rv.toList ++ rest = st2)
    (kk : ∀ (H1 : Heap) (locs1 : List Loc), b_Wd D A s.heap H1 locs1 wb' → W p l e R s m args below meth c H1 locs1 cells slots Q (F0 m (pc + 3) ls st2)) : W p l e R s m args below meth c H locs cells slots Q (F0 m pc ls st) := by
  subst hst
  have hsub := b_sub hw.1 hw.2.1 isC hC1 hnd
  have hrm2 : 2 * (F0 m pc ls (As.reverse ++ rest)).monitorRoom + (rest.map fun v => v.category).sum ≤ 8 := lv_room hrm
  exact b_after (va_runS (As := As) (rest := rest) ⟨hx, hb, hml, hown, hT⟩ (hC.2 H.size) ⟨g_callB hT hM.1 hR, hT _ hM.2⟩
    ⟨b_blind, fun U hU hW => ⟨rfl, by rw [hU], by rw [hU]; exact hsub.1, va_K.moved hW.alike hK, b_D_of ((b_D_flat hsub.2).weaken (fun _ _ _ _ => trivial))⟩⟩ rfl hn hls rfl hrm2 hdg hRc) hw hA isC isR hC1 hC2 hRr (hlen ▸ b_cov hcov) hnd hC.1 hst2 kk
end RowsB
