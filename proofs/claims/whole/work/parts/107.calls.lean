theorem g_put_len {ws : va_W} : ∀ (is : List Nat) (cs : va_W), (g_put ws is cs).length = ws.length
  | [], [] => rfl
  | [], _ :: _ => rfl
  | _ :: _, [] => rfl
  | i :: is, c :: cs => by
    show ((g_put ws is cs).set i c).length = _
    rw [List.length_set]
    exact g_put_len is cs
theorem g_put_at {ws : va_W} : ∀ (is : List Nat) (cs : va_W), is.length = cs.length → ∀ (k : Nat) (q : Nat × va_E), (g_put ws is cs)[k]? = some q → (∃ j : Nat, is[j]? = some k ∧ cs[j]? = some q) ∨ (k ∉ is ∧ ws[k]? = some q)
  | [], [], _, k, q, h => Or.inr ⟨List.not_mem_nil, h⟩
  | [], _ :: _, hl, _, _, _ => by cases hl
  | _ :: _, [], hl, _, _, _ => by cases hl
  | i :: is, c :: cs, hl, k, q, h => by
    have h : ((g_put ws is cs).set i c)[k]? = some q := h
    by_cases hk : k = i
    · subst hk
      rw [List.getElem?_set] at h
      simp only [if_true] at h
      split at h
      · exact Or.inl ⟨0, rfl, h⟩
      · cases h
    · rw [List.getElem?_set_ne (Ne.symm hk)] at h
      rcases g_put_at is cs (by simpa using hl) k q h with ⟨j, h1, h2⟩ | ⟨h1, h2⟩
      · exact Or.inl ⟨j + 1, h1, h2⟩
      · exact Or.inr ⟨fun hm => (List.mem_cons.mp hm).elim hk h1, h2⟩
theorem g_put_ok {D : va_G} {A0 : Nat → Prop} {ws wc wc' : va_W} {H H1 : Heap} (hP : va_P D g_cl ws H) (hD : va_D A0 ws) (is : List Nat) (hC : is.map (fun i => ws[i]?) = wc.map some) (hadr : wc'.map Prod.fst = wc.map Prod.fst)
    (hk : ∀ q : Nat, q < H.size → ¬ va_A wc H.size q → H1[q]? = H[q]?) (hP1 : va_P D g_cl wc' H1) : va_P D g_cl (g_put ws is wc') H1 ∧ va_D A0 (g_put ws is wc') := by
  have hlen : is.length = wc'.length := by
    have h1 := congrArg List.length hC
    have h2 := congrArg List.length hadr
    simp only [List.length_map] at h1 h2
    omega
  have hat : ∀ (j i : Nat), is[j]? = some i → ∃ q, wc[j]? = some q ∧ ws[i]? = some q := by
    intro j i hj
    have h1 : (is.map (fun i => ws[i]?))[j]? = (wc.map some)[j]? := by rw [hC]
    rw [List.getElem?_map, List.getElem?_map, hj] at h1
    cases hw : wc[j]? with
    | none => rw [hw] at h1; cases h1
    | some q => rw [hw] at h1; exact ⟨q, rfl, Option.some.inj h1⟩
  have hat2 : ∀ (j : Nat) (q : Nat × va_E), wc[j]? = some q → ∃ i, is[j]? = some i ∧ ws[i]? = some q := by
    intro j q hj
    have h1 : (is.map (fun i => ws[i]?))[j]? = (wc.map some)[j]? := by rw [hC]
    rw [List.getElem?_map, List.getElem?_map, hj] at h1
    cases hw : is[j]? with
    | none => rw [hw] at h1; cases h1
    | some i => rw [hw] at h1; exact ⟨i, rfl, Option.some.inj h1⟩
  have hfst : ∀ (j : Nat) (q : Nat × va_E), wc'[j]? = some q → ∃ q0, wc[j]? = some q0 ∧ q0.1 = q.1 := by
    intro j q hj
    have h1 : (wc'.map Prod.fst)[j]? = (wc.map Prod.fst)[j]? := by rw [hadr]
    rw [List.getElem?_map, List.getElem?_map, hj] at h1
    cases hw : wc[j]? with
    | none => rw [hw] at h1; cases h1
    | some q0 => rw [hw] at h1; exact ⟨q0, rfl, (Option.some.inj h1).symm⟩
  have key : ∀ (k : Nat) (q : Nat × va_E), (g_put ws is wc')[k]? = some q → ∃ q0, ws[k]? = some q0 ∧ q0.1 = q.1 := by
    intro k q hq
    rcases g_put_at is wc' hlen k q hq with ⟨j, h1, h2⟩ | ⟨-, h2⟩
    · obtain ⟨q0, h3, h4⟩ := hfst j q h2
      obtain ⟨q1, h5, h6⟩ := hat j k h1
      rw [h3] at h5
      cases h5
      exact ⟨q0, h6, h4⟩
    · exact ⟨q, h2, rfl⟩
  refine ⟨fun k q hq => ?_, fun i j x y hi hj hxy => ?_, fun k q hq => ?_⟩
  · rcases g_put_at is wc' hlen k q hq with ⟨j, h1, h2⟩ | ⟨h1, h2⟩
    · exact hP1 j q h2
    · have h3 := hP k q h2
      refine h3.kept (hk q.1 h3.lt ?_)
      rintro (⟨j, e, hj⟩ | hz)
      · obtain ⟨i, h5, h6⟩ := hat2 j (q.1, e) hj
        have h7 := hD.1 i k (q.1, e) q h6 h2 rfl
        subst h7
        exact h1 (List.mem_of_getElem? h5)
      · exact absurd h3.lt (Nat.not_lt.mpr hz)
  · obtain ⟨x0, h1, h2⟩ := key i x hi
    obtain ⟨y0, h3, h4⟩ := key j y hj
    exact hD.1 i j x0 y0 h1 h3 (h2.trans (hxy.trans h4.symm))
  · obtain ⟨q0, h1, h2⟩ := key k q hq
    rw [← h2]
    exact hD.2 k q0 h1
theorem g_blind {D : va_G} {g : Nat → ClassId} {As : List Value} {sz : Nat} {ws : va_W} : FrameBlind (va_Pc As (g_Pre D g sz ws)) := fun a U g' mk q => by
  obtain ⟨q0, q1, qP, qK, qD⟩ := q
  exact ⟨q0, q1, qP, va_K.moved (u := U) (U := U.calling g' mk a) (Vm.Alike.refl U.vm) qK, qD⟩
section RowsC
variable {p : Program} {l : Launch} {e : Env} {R : Room} {s : State} {m : MethodId} {args : Array Value} {below : List Frame} {meth : Method} {c : Code} {H : Heap} {locs : List Loc} {cells slots : Nat} {Q : State → Prop}
variable {cc : ByteArray} {pc : Nat} {ls : Array Slot} {rest st st2 : List Value} {D : va_G} {g : Nat → ClassId} {A : Nat → Prop} {ws ws' wc wc' : va_W} {a : Nat}
theorem g_after {rv : Option Value} {av : Array Value} (hr : va_Run p l e R s m args below meth c H locs cells slots 0 0 (F0 m pc ls st) rest (g_Q D (va_A wc H.size) wc' rv av) (va_A wc H.size)) (hw : g_Wd D A s.heap H locs ws) (hA : ∀ q, s.heap.size ≤ q → A q) (isC : List Nat) (hC1 : isC.map (fun i => ws[i]?) = wc.map some) (hadr : wc'.map Prod.fst = wc.map Prod.fst) (hput : g_put ws isC wc' = ws') (hst2 : rv.toList ++ rest = st2)
    (kk : ∀ (H1 : Heap) (locs1 : List Loc), g_Wd D A s.heap H1 locs1 ws' → W p l e R s m args below meth c H1 locs1 cells slots Q (F0 m (pc + 3) ls st2)) : W p l e R s m args below meth c H locs cells slots Q (F0 m pc ls st) := by
  subst hput; subst hst2
  obtain ⟨hP, hD, hS⟩ := hw
  have hF := va_free (wc := wc) hD hS hA isC hC1
  intro T hT X
  obtain ⟨v, st₀, t, T', L, h0, X', hL, e1, e2, ⟨⟨hv, hp⟩, hz, hk⟩, stp⟩ := hr T hT X
  cases hv
  rw [h0] at hz hk
  obtain ⟨hP1, hD1⟩ := g_put_ok hP hD isC hC1 hadr hk hp
  obtain ⟨t2, a1, b1⟩ := kk T'.heap (locs ++ L) ⟨by rw [e1]; exact hP1, hD1, ⟨Nat.le_trans hS.1 (by rw [e1]; exact hz), fun q h1 h2 => by rw [e1, hk q (Nat.lt_of_lt_of_le h1 hS.1) (fun z => h2 (hF q z))]; exact hS.2.1 q h1 h2, fun q hq => by
      rcases List.mem_append.mp hq with h | h
      · exact hS.2.2 q h
      · exact hF _ (hL q h)⟩⟩ T' rfl X'
  exact ⟨t2, stp t2 a1, b1⟩
theorem g_callB {own : String} {idx : Nat} {y : MethodName} {b : ByteArray} {mL : Nat} {rt : Option FieldType} {fr lo n : Nat} (hT : ∀ w ∈ g_ws, w.before args s = true) (hM : g_MK own idx y b mL rt n) (hR : fr + 1 ≤ R.frames ∧ 8 + (mL + 11) + lo ≤ R.locals) : CallB R s args own idx y b mL rt (.code y b mL rt :: g_ws) (g_rm fr lo) 0 0 n := by
  obtain ⟨h1, h2, h3, h4, h5⟩ := hM
  refine ⟨rfl, rfl, hR.1, hR.2, fun w hw a' U hW => ?_, List.mem_cons_self, hT _ h3, hT _ h2, h4, fun sig hs => ?_, hT _ h1⟩
  · have hm : w ∈ g_ws := by
      rcases List.mem_cons.mp hw with rfl | h
      · exact h3
      · exact h
    exact word_at hW (g_goodw hm) (hT w hm)
  · rw [hs] at h5
    exact (Option.some.inj h5).symm
theorem g_callV {own : String} {idx : Nat} {y : MethodName} {b : ByteArray} {mL nL : Nat} {rt : Option FieldType} {fr lo n ci : Nat} {fs As : List Value} {rv : Option Value} {T : u_T} {N : Nat} (hx : p.tables.exec = Jvm.exec) (hb : c.code = cc) (hml : c.maxLocals = nL) (hown : s.vm.findClass own = some m.cls) (hT : ∀ w ∈ g_ws, w.before args s = true) (hK : va_K D g_cl (g_tys g) s) (hA : ∀ q, s.heap.size ≤ q → A q) (hw : g_Wd D A s.heap H locs ws)
    (hM : g_MV own idx y b mL rt n) (hC : g_Ct l y b mL rt fr lo D g (.ref a :: As) wc wc' rv) (isC : List Nat) (hC1 : isC.map (fun i => ws[i]?) = wc.map some) (hnd : va_nd isC = true) (q0 : Nat) (he : ws[q0]? = some (a, .inr (ci, fs))) (hc : g_cl[ci]? = some (y.cls, T, N)) (hn : As.length = n) (hls : ls.size = nL) (rest : List Value) (hst : st = As.reverse ++ .ref a :: rest) (hrm : (rest.map fun v => v.category).sum ≤ 8) (hR : fr + 1 ≤ R.frames ∧ 8 + (mL + 11) + lo ≤ R.locals) (hRc : cells + 0 ≤ R.cells ∧ slots + 0 ≤ R.slots) (hdg : decode cc pc = .ok (.invokevirtual idx, 3)) (hput : g_put ws isC wc' = ws') (hst2 : rv.toList ++ rest = st2)
    (kk : ∀ (H1 : Heap) (locs1 : List Loc), g_Wd D A s.heap H1 locs1 ws' → W p l e R s m args below meth c H1 locs1 cells slots Q (F0 m (pc + 3) ls st2)) : W p l e R s m args below meth c H locs cells slots Q (F0 m pc ls st) := by
  subst hst
  have hDc := hw.2.1.sub isC hnd hC1
  have hP1 : va_P D g_cl wc H := hw.1.sub (ws' := wc) isC (by
    have := congrArg (List.filterMap id) hC1
    rw [List.filterMap_map, List.filterMap_map] at this
    simpa [Function.comp_def] using this)
  have hrm2 : 2 * (F0 m pc ls (As.reverse ++ .ref a :: rest)).monitorRoom + (rest.map fun v => v.category).sum ≤ 8 := lv_room hrm
  exact g_after (va_runV (As := As) (rest := rest) (C := y.cls) ⟨hx, hb, hml, hown, hT⟩ (hC.2 H.size) ⟨g_callB hT hM.1 hR, hT _ hM.2.1, hT _ hM.2.2⟩
    ⟨g_blind, va_recv hK hw.1 hc he, fun U hU hW => ⟨rfl, by rw [hU], by rw [hU]; exact hP1, va_K.moved hW.alike hK, hDc.weaken (fun _ _ _ _ => trivial)⟩⟩ rfl hn hls rfl hrm2 hdg hRc) hw hA isC hC1 hC.1 hput hst2 kk
theorem g_callS {own : String} {idx : Nat} {y : MethodName} {b : ByteArray} {mL nL : Nat} {rt : Option FieldType} {fr lo n : Nat} {As : List Value} {rv : Option Value} (hx : p.tables.exec = Jvm.exec) (hb : c.code = cc) (hml : c.maxLocals = nL) (hown : s.vm.findClass own = some m.cls) (hT : ∀ w ∈ g_ws, w.before args s = true) (hK : va_K D g_cl (g_tys g) s) (hA : ∀ q, s.heap.size ≤ q → A q) (hw : g_Wd D A s.heap H locs ws)
    (hM : g_MS own idx y b mL rt n) (hC : g_Ct l y b mL rt fr lo D g As wc wc' rv) (isC : List Nat) (hC1 : isC.map (fun i => ws[i]?) = wc.map some) (hnd : va_nd isC = true) (hn : As.length = n) (hls : ls.size = nL) (rest : List Value) (hst : st = As.reverse ++ rest) (hrm : (rest.map fun v => v.category).sum ≤ 8) (hR : fr + 1 ≤ R.frames ∧ 8 + (mL + 11) + lo ≤ R.locals) (hRc : cells + 0 ≤ R.cells ∧ slots + 0 ≤ R.slots) (hdg : decode cc pc = .ok (.invokestatic idx, 3)) (hput : g_put ws isC wc' = ws') (hst2 : rv.toList ++ rest = st2)
    (kk : ∀ (H1 : Heap) (locs1 : List Loc), g_Wd D A s.heap H1 locs1 ws' → W p l e R s m args below meth c H1 locs1 cells slots Q (F0 m (pc + 3) ls st2)) : W p l e R s m args below meth c H locs cells slots Q (F0 m pc ls st) := by
  subst hst
  have hDc := hw.2.1.sub isC hnd hC1
  have hP1 : va_P D g_cl wc H := hw.1.sub (ws' := wc) isC (by
    have := congrArg (List.filterMap id) hC1
    rw [List.filterMap_map, List.filterMap_map] at this
    simpa [Function.comp_def] using this)
  have hrm2 : 2 * (F0 m pc ls (As.reverse ++ rest)).monitorRoom + (rest.map fun v => v.category).sum ≤ 8 := lv_room hrm
  exact g_after (va_runS (As := As) (rest := rest) ⟨hx, hb, hml, hown, hT⟩ (hC.2 H.size) ⟨g_callB hT hM.1 hR, hT _ hM.2⟩
    ⟨g_blind, fun U hU hW => ⟨rfl, by rw [hU], by rw [hU]; exact hP1, va_K.moved hW.alike hK, hDc.weaken (fun _ _ _ _ => trivial)⟩⟩ rfl hn hls rfl hrm2 hdg hRc) hw hA isC hC1 hC.1 hput hst2 kk
theorem g_copyi (hx : p.tables.exec = Jvm.exec) (hb : c.code = cc) {nL : Nat} (hml : c.maxLocals = nL) (hls : ls.size = nL) {own : String} {index : Nat} (hown : s.vm.findClass own = some m.cls) (hT : ∀ w ∈ g_ws, w.before args s = true) (hK : va_K D g_cl (g_tys g) s) (hw : g_Wd D A s.heap H locs ws) (hlink : Cond.methodLink own index arraycopyName ∈ g_ws) (hnat : Cond.native arraycopyName ∈ g_ws) (hstat : Cond.static arraycopyName ∈ g_ws) (hini : Cond.initialized "java/lang/System" ∈ g_ws)
    (q0 q1 t0 : Nat) {a0 : Nat} {n0 n1 : Nat} {f f1 f2 : Nat → Int32} {ty : FieldType} (ht : (g_tys g)[t0]? = some (g t0, ty)) (ha0 : ws[q0]? = some (a0, .inl (g t0, n0, .inl f))) (ha1 : ws[q1]? = some (a, .inl (g t0, n1, .inl f1))) (hprim : refKind ty = false)
    {sp dp n : Int32} (hok : g_cpyOk n0 n1 sp dp n) (hfit : ∀ i, i < n.toNatClampNeg → fits ty (.int (f (sp.toNatClampNeg + i))) = true) (hv : f2 = va_cpy f f1 sp.toNatClampNeg dp.toNatClampNeg n.toNatClampNeg) (hset : ws.set q1 (a, .inl (g t0, n1, .inl f2)) = ws')
    (hframes : 1 ≤ R.frames) (hlocals : (rest.map fun v => v.category).sum + (nativeFrameWords "java/lang/System" "arraycopy" 5 + 11) ≤ R.locals) (hdg : decode cc pc = .ok (.invokestatic index, 3))
    (kk : ∀ (H1 : Heap) (locs1 : List Loc), g_Wd D A s.heap H1 locs1 ws' → W p l e R s m args below meth c H1 locs1 cells slots Q (F0 m (pc + 3) ls rest)) : W p l e R s m args below meth c H locs cells slots Q (F0 m pc ls (.int n :: .int dp :: .ref a :: .int sp :: .ref a0 :: rest)) := by
  subst hv; subst hset
  unfold g_cpyOk at hok
  exact va_copyi hx hb (by rw [hls]; exact hml) hown (hT _ hlink) (hT _ hnat) (hT _ hstat) (hT _ hini) hK hw.1 hw.2.1 hw.2.2 q0 q1 t0 t0 ha0 ha1 ht ht hprim (fun z => hok (Or.inl z)) (fun z => hok (Or.inr (Or.inl z))) (fun z => hok (Or.inr (Or.inr (Or.inl z)))) (Nat.le_of_not_lt fun z => hok (Or.inr (Or.inr (Or.inr (Or.inl z))))) (Nat.le_of_not_lt fun z => hok (Or.inr (Or.inr (Or.inr (Or.inr z))))) hfit hframes hlocals hdg (fun H1 locs1 a1 a2 a3 => kk H1 locs1 ⟨a1, a2, a3⟩)
end RowsC
