/-! rows for methods that may make cells, and that ask something of the statics -/
def s_rm (fr mc ms lo : Nat) : Room := { frames := fr, cells := mc, slots := ms, locals := lo }
def s_ok (E : (Nat → Prop) → State → Heap → Prop) : Prop :=
  (∀ (A : Nat → Prop) (U U' : State) (H : Heap), U.WarmedH U'.vm → E A U H → E A U' H) ∧ (∀ (A : Nat → Prop) (U : State) (H H1 : Heap), (∀ a : Nat, a < H.size → ¬ A a → H1[a]? = H[a]?) → E A U H → E A U H1) ∧ (∀ (A B : Nat → Prop) (U : State) (H : Heap), (∀ q, B q → A q) → E A U H → E B U H) ∧ (∀ (A : Nat → Prop) (U : State) (H : Heap) (g' : JFrame) (mk : MethodId) (a : Array Value), E A U H → E A (U.calling g' mk a) H)
def s_Pre (D : va_G) (g : Nat → ClassId) (sz : Nat) (ws : va_W) (E : (Nat → Prop) → State → Heap → Prop) (U : State) : Prop := g_Pre D g sz ws U ∧ E (va_A ws sz) U U.heap
def s_Q (D : va_G) (A : Nat → Prop) (post : Option Value → va_W → Prop) : Array Value → State → Outcome → State → Prop := fun _ st oc t => (∃ rv ws', oc = .returned rv ∧ post rv ws' ∧ va_P D g_cl ws' t.heap ∧ va_D A ws') ∧ va_F A st t
/-- a method's contract: from the cells ws it may make mc cells of ms slots; post says what it answers and what cells are then -/
def s_Ct (l : Launch) (y : MethodName) (b : ByteArray) (mL : Nat) (rt : Option FieldType) (fr mc ms lo : Nat) (E : (Nat → Prop) → State → Heap → Prop) (D : va_G) (g : Nat → ClassId) (As : List Value) (ws : va_W) (post : Option Value → va_W → Prop) : Prop :=
  ∀ sz, Met l y (.code y b mL rt :: g_ws) (s_rm fr mc ms lo) (va_Pc As (s_Pre D g sz ws E)) (s_Q D (va_A ws sz) post) mc ms (va_A ws sz)
set_option maxHeartbeats 4000000 in
theorem s_start {l : Launch} {y : MethodName} {b : ByteArray} {mL : Nat} {rt : Option FieldType} {fr mc ms lo : Nat} {E : (Nat → Prop) → State → Heap → Prop} {D : va_G} {g : Nat → ClassId} {As : List Value} {ws : va_W} {post : Option Value → va_W → Prop} (own : String) (hy : plainName y.cls = true) (hown : y.cls = own) (hlen : (lg_sl As).length ≤ mL)
    (body : ∀ (p : Program) (e : Env) (s : State) (m : MethodId) (args : Array Value) (below : List Frame) (meth : Method) (c : Code) (A : Nat → Prop) (ls : Array Slot) (Q : State → Prop), Q = MQ below (s_Q D A post) args s mc ms A → p.tables.exec = Jvm.exec → c.code = b → meth.sig.returnType = rt → meth.locks = false → c.maxLocals = mL → s.vm.findClass own = some m.cls → (∀ w ∈ g_ws, w.before args s = true) → va_K D g_cl (g_tys g) s → (∀ q, s.heap.size ≤ q → A q) → E A s s.heap → g_Wd D A s.heap s.heap [] ws → lv_has ls mL (lv_args 0 As) → W p l e (s_rm fr mc ms lo) s m args below meth c s.heap [] 0 0 Q (F0 m 0 ls [])) : s_Ct l y b mL rt fr mc ms lo E D g As ws post := by
  intro sz
  refine Met.ofW (cc := b) (maxL := mL) (ret := rt) hy rfl ?_
  intro p e s m args below meth c s₁ B hml hv
  obtain ⟨rfl, ⟨hsz, hP, hK, hD0⟩, hE⟩ := hv
  have hts := atoms_spec (ws := .code y b mL rt :: g_ws) B.pre
  have hown' : s.vm.findClass own = some m.cls := by rw [← hown]; exact findClass_of_methodNamed B.named
  subst hsz
  have hD := hD0.self (sz := s.heap.size)
  have hA : ∀ q : Nat, s.heap.size ≤ q → va_A ws s.heap.size q := fun q h => Or.inr h
  have hl := lv_entry As (n := mL) hlen
  rw [lg_entry_eq]
  exact body p e s m _ below meth c _ _ _ rfl B.exec B.bytes B.returns B.notSynchronized hml hown' (fun w hw => hts w (List.mem_cons_of_mem _ hw)) hK hA hE ⟨hP, hD, va_S.rf⟩ hl
theorem s_blind {D : va_G} {g : Nat → ClassId} {As : List Value} {sz : Nat} {ws : va_W} {E : (Nat → Prop) → State → Heap → Prop} (hE : s_ok E) : FrameBlind (va_Pc As (s_Pre D g sz ws E)) := fun a U g' mk q => by
  obtain ⟨q0, ⟨q1, qP, qK, qD⟩, qE⟩ := q
  exact ⟨q0, ⟨q1, qP, va_K.moved (u := U) (U := U.calling g' mk a) (Vm.Alike.refl U.vm) qK, qD⟩, hE.2.2.2 _ U _ g' mk a qE⟩
theorem s_Eat {E : (Nat → Prop) → State → Heap → Prop} (hE : s_ok E) {A B : Nat → Prop} {s U : State} {H : Heap} {locs : List Loc} (h0 : E A s s.heap) (hS : va_S A s.heap H locs) (hF : ∀ q, B q → A q) (hW : s.WarmedH U.vm) : E B U H := hE.1 _ s U H hW (hE.2.2.1 A B s H hF (hE.2.1 A s s.heap H hS.2.1 h0))
theorem va_RA_inj {U : State} {c1 c2 : ClassId} {ty : FieldType} (h1 : va_RA U c1 ty) (h2 : va_RA U c2 ty) : c1 = c2 := by
  cases ty with
  | object C =>
    obtain ⟨_, _, _, _, _, a⟩ := h1
    obtain ⟨_, _, _, _, _, b⟩ := h2
    exact Option.some.inj (a.symm.trans b)
  | _ => exact Option.some.inj (Eq.trans (Eq.symm h1) h2)
theorem in_J4 : ∀ w ∈ u_ws RJ4 TJ4 4, w ∈ g_ws := by decide +kernel
section RowsS
variable {p : Program} {l : Launch} {e : Env} {R : Room} {s : State} {m : MethodId} {args : Array Value} {below : List Frame} {meth : Method} {c : Code} {H : Heap} {locs : List Loc} {cells slots : Nat} {Q : State → Prop}
variable {cc : ByteArray} {pc : Nat} {ls : Array Slot} {rest st : List Value} {D : va_G} {g : Nat → ClassId} {A : Nat → Prop} {ws ws' wc wr : va_W} {a : Nat} {E : (Nat → Prop) → State → Heap → Prop} {mc ms : Nat} {post : Option Value → va_W → Prop}
theorem s_callB {own : String} {idx : Nat} {y : MethodName} {b : ByteArray} {mL : Nat} {rt : Option FieldType} {fr lo n : Nat} (hT : ∀ w ∈ g_ws, w.before args s = true) (hM : g_MK own idx y b mL rt n) (hR : fr + 1 ≤ R.frames ∧ 8 + (mL + 11) + lo ≤ R.locals) : CallB R s args own idx y b mL rt (.code y b mL rt :: g_ws) (s_rm fr mc ms lo) mc ms n := by
  obtain ⟨h1, h2, h3, h4, h5⟩ := hM
  refine ⟨rfl, rfl, hR.1, hR.2, fun w hw a' U hW => ?_, List.mem_cons_self, hT _ h3, hT _ h2, h4, fun sig hs => ?_, hT _ h1⟩
  · have hm : w ∈ g_ws := by
      rcases List.mem_cons.mp hw with rfl | h
      · exact h3
      · exact h
    exact word_at hW (g_goodw hm) (hT w hm)
  · rw [hs] at h5
    exact (Option.some.inj h5).symm
theorem s_after {av : Array Value} (hr : va_Run p l e R s m args below meth c H locs cells slots mc ms (F0 m pc ls st) rest (s_Q D (va_A wc H.size) post av) (va_A wc H.size)) (hw : g_Wd D A s.heap H locs ws) (hA : ∀ q, s.heap.size ≤ q → A q) (isC isR : List Nat) (hC1 : isC.map (fun i => ws[i]?) = wc.map some) (hR1 : isR.map (fun i => ws[i]?) = wr.map some) (hn : va_nd isR = true) (hdis : ∀ i ∈ isR, i ∉ isC)
    (kk : ∀ (rv : Option Value) (w1 : va_W) (H1 : Heap) (locs1 : List Loc), post rv w1 → g_Wd D A s.heap H1 locs1 (wr ++ w1) → W p l e R s m args below meth c H1 locs1 (cells + mc) (slots + ms) Q (F0 m (pc + 3) ls (rv.toList ++ rest))) : W p l e R s m args below meth c H locs cells slots Q (F0 m pc ls st) := by
  obtain ⟨hP, hD, hS⟩ := hw
  have hF := va_free (wc := wc) hD hS hA isC hC1
  intro T hT X
  obtain ⟨v, st₀, t, T', L, h0, X', hL, e1, e2, ⟨⟨rv, w1, hv, hp, hP1, hD1⟩, hz, hk⟩, stp⟩ := hr T hT X
  cases hv
  rw [h0] at hz hk
  obtain ⟨hP2, hD2⟩ := va_join hP hD isC isR hC1 hR1 hn hdis hk hF hP1 hD1
  obtain ⟨t2, a1, b1⟩ := kk v w1 T'.heap (locs ++ L) hp ⟨by rw [e1]; exact hP2, hD2, ⟨Nat.le_trans hS.1 (by rw [e1]; exact hz), fun q h1 h2 => by rw [e1, hk q (Nat.lt_of_lt_of_le h1 hS.1) (fun z => h2 (hF q z))]; exact hS.2.1 q h1 h2, fun q hq => by
      rcases List.mem_append.mp hq with h | h
      · exact hS.2.2 q h
      · exact hF _ (hL q h)⟩⟩ T' rfl X'
  exact ⟨t2, stp t2 a1, b1⟩
theorem s_pre {As : List Value} (hE : s_ok E) (hE0 : E A s s.heap) (hK : va_K D g_cl (g_tys g) s) (hw : g_Wd D A s.heap H locs ws) (hA : ∀ q, s.heap.size ≤ q → A q) (isC : List Nat) (hC1 : isC.map (fun i => ws[i]?) = wc.map some) (hnd : va_nd isC = true) : ∀ U : State, U.heap = H → s.WarmedH U.vm → va_Pc As (s_Pre D g H.size wc E) As.toArray U := by
  intro U hU hW
  have hDc := hw.2.1.sub isC hnd hC1
  have hP1 : va_P D g_cl wc H := hw.1.sub (ws' := wc) isC (by
    have := congrArg (List.filterMap id) hC1
    rw [List.filterMap_map, List.filterMap_map] at this
    simpa [Function.comp_def] using this)
  have hF := va_free (wc := wc) hw.2.1 hw.2.2 hA isC hC1
  refine ⟨rfl, ⟨by rw [hU], by rw [hU]; exact hP1, va_K.moved hW.alike hK, hDc.weaken (fun _ _ _ _ => trivial)⟩, ?_⟩
  rw [hU]
  exact s_Eat hE hE0 hw.2.2 hF hW
/-- a call of an instance method; the receiver may be no cell of the world -/
theorem s_callV {own C : String} {idx : Nat} {y : MethodName} {b : ByteArray} {mL nL : Nat} {rt : Option FieldType} {fr lo n : Nat} {As : List Value} (hx : p.tables.exec = Jvm.exec) (hb : c.code = cc) (hml : c.maxLocals = nL) (hown : s.vm.findClass own = some m.cls) (hT : ∀ w ∈ g_ws, w.before args s = true) (hK : va_K D g_cl (g_tys g) s) (hA : ∀ q, s.heap.size ≤ q → A q) (hE : s_ok E) (hE0 : E A s s.heap) (hw : g_Wd D A s.heap H locs ws)
    (hM : g_MK own idx y b mL rt n) (hin : Cond.instanceMethod y ∈ g_ws) (hsel : (Cond.selects C y y).before args s = true) (hC : s_Ct l y b mL rt fr mc ms lo E D g (.ref a :: As) wc post) (isC isR : List Nat) (hC1 : isC.map (fun i => ws[i]?) = wc.map some) (hnd : va_nd isC = true) (hR1 : isR.map (fun i => ws[i]?) = wr.map some) (hnR : va_nd isR = true) (hdis : ∀ i ∈ isR, i ∉ isC)
    (hrecv : ∃ cell : Cell, H[a]? = some cell ∧ cell.vm.isStatics = false ∧ s.vm.findClass C = some cell.cls) (hn : As.length = n) (hls : ls.size = nL) (rest : List Value) (hst : st = As.reverse ++ .ref a :: rest) (hrm : (rest.map fun v => v.category).sum ≤ 8) (hR : fr + 1 ≤ R.frames ∧ 8 + (mL + 11) + lo ≤ R.locals) (hRc : cells + mc ≤ R.cells ∧ slots + ms ≤ R.slots) (hdg : decode cc pc = .ok (.invokevirtual idx, 3))
    (kk : ∀ (rv : Option Value) (w1 : va_W) (H1 : Heap) (locs1 : List Loc), post rv w1 → g_Wd D A s.heap H1 locs1 (wr ++ w1) → W p l e R s m args below meth c H1 locs1 (cells + mc) (slots + ms) Q (F0 m (pc + 3) ls (rv.toList ++ rest))) : W p l e R s m args below meth c H locs cells slots Q (F0 m pc ls st) := by
  subst hst
  have hrm2 : 2 * (F0 m pc ls (As.reverse ++ .ref a :: rest)).monitorRoom + (rest.map fun v => v.category).sum ≤ 8 := lv_room hrm
  exact s_after (va_runV (As := As) (rest := rest) (C := C) ⟨hx, hb, hml, hown, hT⟩ (hC H.size) ⟨s_callB hT hM hR, hT _ hin, hsel⟩
    ⟨s_blind hE, hrecv, s_pre hE hE0 hK hw hA isC hC1 hnd⟩ rfl hn hls rfl hrm2 hdg hRc) hw hA isC isR hC1 hR1 hnR hdis kk
theorem s_callS {own : String} {idx : Nat} {y : MethodName} {b : ByteArray} {mL nL : Nat} {rt : Option FieldType} {fr lo n : Nat} {As : List Value} (hx : p.tables.exec = Jvm.exec) (hb : c.code = cc) (hml : c.maxLocals = nL) (hown : s.vm.findClass own = some m.cls) (hT : ∀ w ∈ g_ws, w.before args s = true) (hK : va_K D g_cl (g_tys g) s) (hA : ∀ q, s.heap.size ≤ q → A q) (hE : s_ok E) (hE0 : E A s s.heap) (hw : g_Wd D A s.heap H locs ws)
    (hM : g_MS own idx y b mL rt n) (hC : s_Ct l y b mL rt fr mc ms lo E D g As wc post) (isC isR : List Nat) (hC1 : isC.map (fun i => ws[i]?) = wc.map some) (hnd : va_nd isC = true) (hR1 : isR.map (fun i => ws[i]?) = wr.map some) (hnR : va_nd isR = true) (hdis : ∀ i ∈ isR, i ∉ isC)
    (hn : As.length = n) (hls : ls.size = nL) (rest : List Value) (hst : st = As.reverse ++ rest) (hrm : (rest.map fun v => v.category).sum ≤ 8) (hR : fr + 1 ≤ R.frames ∧ 8 + (mL + 11) + lo ≤ R.locals) (hRc : cells + mc ≤ R.cells ∧ slots + ms ≤ R.slots) (hdg : decode cc pc = .ok (.invokestatic idx, 3))
    (kk : ∀ (rv : Option Value) (w1 : va_W) (H1 : Heap) (locs1 : List Loc), post rv w1 → g_Wd D A s.heap H1 locs1 (wr ++ w1) → W p l e R s m args below meth c H1 locs1 (cells + mc) (slots + ms) Q (F0 m (pc + 3) ls (rv.toList ++ rest))) : W p l e R s m args below meth c H locs cells slots Q (F0 m pc ls st) := by
  subst hst
  have hrm2 : 2 * (F0 m pc ls (As.reverse ++ rest)).monitorRoom + (rest.map fun v => v.category).sum ≤ 8 := lv_room hrm
  exact s_after (va_runS (As := As) (rest := rest) ⟨hx, hb, hml, hown, hT⟩ (hC H.size) ⟨s_callB hT hM.1 hR, hT _ hM.2⟩
    ⟨s_blind hE, s_pre hE hE0 hK hw hA isC hC1 hnd⟩ rfl hn hls rfl hrm2 hdg hRc) hw hA isC isR hC1 hR1 hnR hdis kk
/-- super.m(..) on a StringBuilder -/
theorem s_callU {own : String} {idx : Nat} {y : MethodName} {b : ByteArray} {mL nL : Nat} {rt : Option FieldType} {fr lo n : Nat} {As : List Value} {fs : List Value} (hx : p.tables.exec = Jvm.exec) (hb : c.code = cc) (hml : c.maxLocals = nL) (hown : s.vm.findClass own = some m.cls) (hT : ∀ w ∈ g_ws, w.before args s = true) (hK : va_K D g_cl (g_tys g) s) (hA : ∀ q, s.heap.size ≤ q → A q) (hE : s_ok E) (hE0 : E A s s.heap) (hw : g_Wd D A s.heap H locs ws)
    (hM : g_MK own idx y b mL rt n) (hin : Cond.instanceMethod y ∈ g_ws) (hsm : Cond.sameMethod y.cls y.cls y.name y.desc ∈ g_ws) (hsu : Cond.superclass own y.cls ∈ g_ws) (hno : y.name ≠ "<init>") (hC : s_Ct l y b mL rt fr mc ms lo E D g (.ref a :: As) wc post) (isC isR : List Nat) (hC1 : isC.map (fun i => ws[i]?) = wc.map some) (hnd : va_nd isC = true) (hR1 : isR.map (fun i => ws[i]?) = wr.map some) (hnR : va_nd isR = true) (hdis : ∀ i ∈ isR, i ∉ isC)
    (q0 : Nat) (he : ws[q0]? = some (a, .inr (0, fs))) (hn : As.length = n) (hls : ls.size = nL) (rest : List Value) (hst : st = As.reverse ++ .ref a :: rest) (hrm : (rest.map fun v => v.category).sum ≤ 8) (hR : fr + 1 ≤ R.frames ∧ 8 + (mL + 11) + lo ≤ R.locals) (hRc : cells + mc ≤ R.cells ∧ slots + ms ≤ R.slots) (hdg : decode cc pc = .ok (.invokespecial idx, 3))
    (kk : ∀ (rv : Option Value) (w1 : va_W) (H1 : Heap) (locs1 : List Loc), post rv w1 → g_Wd D A s.heap H1 locs1 (wr ++ w1) → W p l e R s m args below meth c H1 locs1 (cells + mc) (slots + ms) Q (F0 m (pc + 3) ls (rv.toList ++ rest))) : W p l e R s m args below meth c H locs cells slots Q (F0 m pc ls st) := by
  subst hst
  have hrm2 : 2 * (F0 m pc ls (As.reverse ++ .ref a :: rest)).monitorRoom + (rest.map fun v => v.category).sum ≤ 8 := lv_room hrm
  have hB := s_callB (mc := mc) (ms := ms) (R := R) (fr := fr) (lo := lo) hT hM hR
  exact s_after (va_runSU (As := As) (rest := rest) (C := RJ4) (hK.1 0 (RJ4, TJ4, 4) rfl).2 ⟨hx, hb, hml, hown, hT⟩ (hC H.size) ⟨⟨hB.1, hB.2.1, hB.2.2.1, hB.2.2.2.1, hB.2.2.2.2.1, hB.2.2.2.2.2.1⟩, hT _ hM.1, hT _ hsm, hT _ hsu, hT _ hin, hT _ hM.2.1, hT _ hM.2.2.1, hno, hB.2.2.2.2.2.2.2.2.2.1⟩
    ⟨s_blind hE, va_recv hK hw.1 (q := (RJ4, TJ4, 4)) rfl he, s_pre hE hE0 hK hw hA isC hC1 hnd⟩ rfl hn hls rfl hrm2 hdg hRc) hw hA isC isR hC1 hR1 hnR hdis kk
theorem s_selP {y : MethodName} {n : Nat} (hT : ∀ w ∈ g_ws, w.before args s = true) (hins : Cond.instantiable RJ4 n ∈ g_ws) (hsm : Cond.sameMethod y.cls y.cls y.name y.desc ∈ g_ws) (hpr : Cond.privateMethod y ∈ g_ws) (hin : Cond.instanceMethod y ∈ g_ws) : (Cond.selects RJ4 y y).before args s = true := by
  obtain ⟨c0, k0, hc0, hk0, -⟩ := Cond.instantiable_spec (hT _ hins)
  obtain ⟨cn, ck, r, hcn, hck, hni, hf, hn1⟩ := Cond.sameMethod_found (hT _ hsm)
  obtain ⟨mk, methM, hnamed, hmethM, -, -⟩ := Cond.instanceMethod_spec (hT _ hin)
  have hn1' : s.methodNamed? y = some r := hn1
  cases hn1'.symm.trans hnamed
  have hcls : r.cls = cn := Option.some.inj ((findClass_of_methodNamed hnamed).symm.trans hcn)
  have hsel : selectMethod {} s.vm c0 r = .method r := selectMethod_private hmethM (Cond.privateMethod_at (hT _ hpr) r methM hnamed hmethM)
  simp only [Cond.before, Cond.holds, Cond.value, hc0, hf, hnamed, hsel, hcls, hck]
  simp; exact hni
theorem s_get (hx : p.tables.exec = Jvm.exec) (hb : c.code = cc) (hT : ∀ w ∈ g_ws, w.before args s = true) (hK : va_K D g_cl (g_tys g) s) {own : String} (hown : s.vm.findClass own = some m.cls) {index k : Nat} (hk : k < 4) (hlink : Cond.fieldLink own index (TJ4 k).1 (TJ4 k).2.1 (TJ4 k).2.2.1 ∈ g_ws) (hw : g_Wd D A s.heap H locs ws) (q0 : Nat) {fs : List Value} (he : ws[q0]? = some (a, .inr (0, fs))) {v : Value} (hv : fs[k]? = some v) (hdg : decode cc pc = .ok (.getfield index, 3))
    (kk : W p l e R s m args below meth c H locs cells slots Q (F0 m (pc + 3) ls (v :: rest))) : W p l e R s m args below meth c H locs cells slots Q (F0 m pc ls (.ref a :: rest)) :=
  va_get (D := D) (C := RJ4) (T := TJ4) (N := 4) hx hb hT in_J4 hown hK hw.1 q0 he rfl k hk (hT _ hlink) (fun _ h9 => h9) hv hdg kk
theorem s_put (hx : p.tables.exec = Jvm.exec) (hb : c.code = cc) (hT : ∀ w ∈ g_ws, w.before args s = true) (hK : va_K D g_cl (g_tys g) s) {own : String} (hown : s.vm.findClass own = some m.cls) {index k : Nat} (hk : k < 4) (hlink : Cond.fieldLink own index (TJ4 k).1 (TJ4 k).2.1 (TJ4 k).2.2.1 ∈ g_ws) (hw : g_Wd D A s.heap H locs ws) (q0 : Nat) {fs : List Value} (he : ws[q0]? = some (a, .inr (0, fs))) (hfin : (TJ4 k).2.2.2 = false) {v : Value} (hn : narrow (tyJ4 k) v = v) (hfit : fits (tyJ4 k) v = true) (hl : k < fs.length) (hset : ws.set q0 (a, .inr (0, fs.set k v)) = ws') (hdg : decode cc pc = .ok (.putfield index, 3))
    (kk : ∀ (H1 : Heap) (locs1 : List Loc), g_Wd D A s.heap H1 locs1 ws' → W p l e R s m args below meth c H1 locs1 cells slots Q (F0 m (pc + 3) ls rest)) : W p l e R s m args below meth c H locs cells slots Q (F0 m pc ls (v :: .ref a :: rest)) := by
  subst hset
  exact va_put (D := D) (C := RJ4) (T := TJ4) (N := 4) hx hb hT in_J4 tyJ4 tyJ4_ok nmJ4 hown hK hw.1 hw.2.1 hw.2.2 q0 he rfl k hk (hT _ hlink) (fun _ h9 => h9) hfin (tyJ4_ok k hk) hn hfit hl hdg (fun H1 locs1 a1 a2 a3 => kk H1 locs1 ⟨a1, a2, a3⟩)
theorem s_bald (hx : p.tables.exec = Jvm.exec) (hb : c.code = cc) (hK : va_K D g_cl (g_tys g) s) (hw : g_Wd D A s.heap H locs ws) (q0 : Nat) {n : Nat} {f : Nat → Int32} (ha : ws[q0]? = some (a, .inl (g 4, n, .inl f))) {i x : Int32} (hi : vp_in i n) (hv : f i.toNatClampNeg = x) (hdg : decode cc pc = .ok (.baload, 1))
    (kk : W p l e R s m args below meth c H locs cells slots Q (F0 m (pc + 1) ls (.int x :: rest))) : W p l e R s m args below meth c H locs cells slots Q (F0 m pc ls (.int i :: .ref a :: rest)) := by
  subst hv
  exact va_bald hx hb hK hw.1 q0 4 ha rfl hi hdg kk
theorem s_bast (hx : p.tables.exec = Jvm.exec) (hb : c.code = cc) (hK : va_K D g_cl (g_tys g) s) (hw : g_Wd D A s.heap H locs ws) (q0 : Nat) {n : Nat} {f f1 : Nat → Int32} (ha : ws[q0]? = some (a, .inl (g 4, n, .inl f))) {i x : Int32} (hi : vp_in i n) (hv : f1 = upd f i.toNatClampNeg (vp_nar .byte x)) (hset : ws.set q0 (a, .inl (g 4, n, .inl f1)) = ws') (hdg : decode cc pc = .ok (.bastore, 1))
    (kk : ∀ (H1 : Heap) (locs1 : List Loc), g_Wd D A s.heap H1 locs1 ws' → W p l e R s m args below meth c H1 locs1 cells slots Q (F0 m (pc + 1) ls rest)) : W p l e R s m args below meth c H locs cells slots Q (F0 m pc ls (.int x :: .int i :: .ref a :: rest)) := by
  subst hv; subst hset
  exact va_bast hx hb hK hw.1 hw.2.1 hw.2.2 q0 4 ha rfl hi hdg (fun H1 locs1 a1 a2 a3 => kk H1 locs1 ⟨a1, a2, a3⟩)
theorem s_newa (hx : p.tables.exec = Jvm.exec) (hb : c.code = cc) (hT : ∀ w ∈ g_ws, w.before args s = true) {atype : ArrayType} {ty : FieldType} {t0 : Nat} (harr : Cond.arrayClass (newarray.typeOf atype) ∈ g_ws) (hty : newarray.typeOf atype = ty) (hK : va_K D g_cl (g_tys g) s) (ht : (g_tys g)[t0]? = some (g t0, ty)) (hw : g_Wd D A s.heap H locs ws) (hA : ∀ q, s.heap.size ≤ q → A q)
    {n : Int32} {N' : Nat} {a0 : vp_A} (ha : ∀ cA : ClassId, vp_cell cA a0 = arrV cA N' (fun _ => defaultValue ty)) (hn : ¬ n < 0) (hN : n.toNatClampNeg = N') (hbytes : N' * componentBytes ty ≤ 536870912) (hcells : cells + 1 ≤ R.cells) (hslots : slots + N' ≤ R.slots) (hdg : decode cc pc = .ok (.newarray atype, 2))
    (kk : ∀ (q : Nat) (H1 : Heap), g_Wd D A s.heap H1 locs (ws ++ [(q, .inl (g t0, a0))]) →
      W p l e R s m args below meth c H1 locs (cells + 1) (slots + N') Q (F0 m (pc + 2) ls (.ref q :: rest))) : W p l e R s m args below meth c H locs cells slots Q (F0 m pc ls (.int n :: rest)) := by
  refine va_newa hx hb (hT _ harr) hty hK hw.1 hw.2.1 hw.2.2 hA ha hn hN hbytes hcells hslots hdg (fun q cA H1 hK1 hP1 hD1 hS1 => ?_)
  have h1 := (hK1.2 (g_tys g).length (cA, ty) (by rw [List.getElem?_append_right (Nat.le_refl _), Nat.sub_self]; rfl)).2
  have h2 := (hK.2 t0 _ ht).2
  have e := va_RA_inj h1 h2
  subst e
  exact kk q H1 ⟨hP1, hD1, hS1⟩
theorem s_iret {v : Int32} {mc0 ms0 : Nat} (hQ : Q = MQ below (s_Q D A post) args s mc ms A) (hx : p.tables.exec = Jvm.exec) (hb : c.code = cc) (hr : meth.sig.returnType = some .int) (hlocks : meth.locks = false) (hc : mc0 ≤ mc ∧ ms0 ≤ ms) (hw : g_Wd D A s.heap H locs ws') (hp : post (some (.int v)) ws') (hdg : decode cc pc = .ok (.ireturn, 1)) : W p l e R s m args below meth c H locs mc0 ms0 Q (F0 m pc ls [.int v]) := by
  subst hQ
  exact W.widen hc.1 hc.2 (W.iret hx hb hr (fun t ht _ => ⟨⟨_, ws', rfl, hp, by rw [ht]; exact hw.1, hw.2.1⟩, hw.2.2.F ht⟩) hw.2.2.2.2 hdg hlocks)
theorem s_zret {v : Int32} {ty : FieldType} {mc0 ms0 : Nat} (hQ : Q = MQ below (s_Q D A post) args s mc ms A) (hx : p.tables.exec = Jvm.exec) (hb : c.code = cc) (hr : meth.sig.returnType = some ty) (hn : narrow ty (.int v) = .int v) (hlocks : meth.locks = false) (hc : mc0 ≤ mc ∧ ms0 ≤ ms) (hw : g_Wd D A s.heap H locs ws') (hp : post (some (.int v)) ws') (hdg : decode cc pc = .ok (.ireturn, 1)) : W p l e R s m args below meth c H locs mc0 ms0 Q (F0 m pc ls [.int v]) := by
  subst hQ
  exact W.widen hc.1 hc.2 (W.zret hx hb hr hn (fun t ht _ => ⟨⟨_, ws', rfl, hp, by rw [ht]; exact hw.1, hw.2.1⟩, hw.2.2.F ht⟩) hw.2.2.2.2 hdg hlocks)
theorem s_vret {mc0 ms0 : Nat} (hQ : Q = MQ below (s_Q D A post) args s mc ms A) (hx : p.tables.exec = Jvm.exec) (hb : c.code = cc) (hr : meth.sig.returnType = none) (hlocks : meth.locks = false) (hc : mc0 ≤ mc ∧ ms0 ≤ ms) (hw : g_Wd D A s.heap H locs ws') (hp : post none ws') (hdg : decode cc pc = .ok (.return_, 1)) : W p l e R s m args below meth c H locs mc0 ms0 Q (F0 m pc ls []) := by
  subst hQ
  exact W.widen hc.1 hc.2 (W.vret hx hb hr (fun t ht _ => ⟨⟨_, ws', rfl, hp, by rw [ht]; exact hw.1, hw.2.1⟩, hw.2.2.F ht⟩) hw.2.2.2.2 hdg hlocks)
theorem s_aret {q : Nat} {rt : FieldType} {mc0 ms0 : Nat} (hQ : Q = MQ below (s_Q D A post) args s mc ms A) (hx : p.tables.exec = Jvm.exec) (hb : c.code = cc) (hr : meth.sig.returnType = some rt) (hrt : (∃ n, rt = .object n) ∨ ∃ t, rt = .array t) (hlocks : meth.locks = false) (hc : mc0 ≤ mc ∧ ms0 ≤ ms) (hw : g_Wd D A s.heap H locs ws') (hp : post (some (.ref q)) ws') (hdg : decode cc pc = .ok (.areturn, 1)) : W p l e R s m args below meth c H locs mc0 ms0 Q (F0 m pc ls [.ref q]) := by
  subst hQ
  exact W.widen hc.1 hc.2 (W.aret hx hb hr hrt (Or.inr ⟨q, rfl⟩) (fun t ht _ => ⟨⟨_, ws', rfl, hp, by rw [ht]; exact hw.1, hw.2.1⟩, hw.2.2.F ht⟩) hw.2.2.2.2 hdg hlocks)
end RowsS
