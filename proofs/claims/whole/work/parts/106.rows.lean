/-! base: functions that methods are read as, and derived rows -/
theorem g_rd_some {α β : Type} {f : Nat → α} {n : Nat} {i : Int32} {k : α → Option β} {u : β} (h : g_rd f n i k = some u) : ∃ x, x = f i.toNatClampNeg ∧ vp_in i n ∧ k x = some u := by
  unfold g_rd at h
  split at h
  · cases h
  · exact ⟨_, rfl, by assumption, h⟩
theorem g_wr_some {β : Type} {f : Nat → Int32} {n : Nat} {i x : Int32} {k : (Nat → Int32) → Option β} {u : β} (h : g_wr f n i x k = some u) : ∃ f1, f1 = upd f i.toNatClampNeg x ∧ vp_in i n ∧ k f1 = some u := by
  unfold g_wr at h
  split at h
  · cases h
  · exact ⟨_, rfl, by assumption, h⟩
theorem g_wrL_some {β : Type} {f : Nat → Int64} {n : Nat} {i : Int32} {x : Int64} {k : (Nat → Int64) → Option β} {u : β} (h : g_wrL f n i x k = some u) : ∃ f1, f1 = vp_updL f i.toNatClampNeg x ∧ vp_in i n ∧ k f1 = some u := by
  unfold g_wrL at h
  split at h
  · cases h
  · exact ⟨_, rfl, by assumption, h⟩
theorem g_wrZ_some {β : Type} {f : Nat → Int32} {n : Nat} {i x : Int32} {k : (Nat → Int32) → Option β} {u : β} (h : g_wrZ f n i x k = some u) : ∃ f1, f1 = upd f i.toNatClampNeg (vp_nar .boolean x) ∧ vp_in i n ∧ k f1 = some u := by
  unfold g_wrZ at h
  split at h
  · cases h
  · exact ⟨_, rfl, by assumption, h⟩
theorem g_bd_nm {α β : Type} {e : α} {k : α → β} {o : β} (h : g_bd e k = o) : ∃ x, x = e ∧ k x = o := ⟨e, rfl, h⟩
theorem g_bd_k {α β : Type} {e : α} {k : α → β} {o : β} (h : g_bd e k = o) : ∃ j, j = k ∧ j e = o := ⟨k, rfl, h⟩
theorem g_jn_nm {α β : Type} {r : α} {b : α → β} {o : β} (h : g_jn r b = o) : ∃ j, j = r ∧ b j = o := ⟨r, rfl, h⟩
theorem g_z_some {β : Type} {x : Int32} {k : Option β} {u : β} (h : g_z x k = some u) : (x = 0 ∨ x = 1) ∧ k = some u := by
  unfold g_z at h
  split at h
  · exact ⟨by assumption, h⟩
  · cases h
theorem g_nz_some {β : Type} {x : Int32} {k : Option β} {u : β} (h : g_nz x k = some u) : ¬ x = 0 ∧ k = some u := by
  unfold g_nz at h
  split at h
  · cases h
  · exact ⟨by assumption, h⟩
theorem g_nzL_some {β : Type} {x : Int64} {k : Option β} {u : β} (h : g_nzL x k = some u) : ¬ x = 0 ∧ k = some u := by
  unfold g_nzL at h
  split at h
  · cases h
  · exact ⟨by assumption, h⟩
theorem g_cl_some {α β : Type} {r : Option α} {k : α → Option β} {u : β} (h : r.bind k = some u) : ∃ x, r = some x ∧ k x = some u := by
  cases r with
  | none => cases h
  | some x => exact ⟨x, rfl, h⟩
theorem g_cpy_some {β : Type} {f g : Nat → Int32} {n0 n1 : Nat} {sp dp n : Int32} {k : (Nat → Int32) → Option β} {u : β} (h : g_cpy f n0 sp g n1 dp n k = some u) : ∃ f1, f1 = va_cpy f g sp.toNatClampNeg dp.toNatClampNeg n.toNatClampNeg ∧ g_cpyOk n0 n1 sp dp n ∧ k f1 = some u := by
  unfold g_cpy at h
  split at h
  · cases h
  · exact ⟨_, rfl, by assumption, h⟩
theorem g_cpyZ_some {β : Type} {f g : Nat → Int32} {n0 n1 : Nat} {sp dp n : Int32} {k : (Nat → Int32) → Option β} {u : β} (h : g_cpyZ f n0 sp g n1 dp n k = some u) : ∃ f1, f1 = va_cpy f g sp.toNatClampNeg dp.toNatClampNeg n.toNatClampNeg ∧ g_cpyOk n0 n1 sp dp n ∧ (∀ i, i < n.toNatClampNeg → fits .boolean (.int (f (sp.toNatClampNeg + i))) = true) ∧ k f1 = some u := by
  unfold g_cpyZ at h
  split at h
  · cases h
  · split at h
    · exact ⟨_, rfl, by assumption, by assumption, h⟩
    · cases h
-- words
/-- the tables' words that stay true as the tables warm -/
def g_ws : List Cond := lw_tbl.filter goodWord
theorem g_goodw {w : Cond} (h : w ∈ g_ws) : (w.onTables && w.keeps) = true ∨ ∃ ty, w = .arrayClass ty := good_of_word (List.mem_filter.mp h).2
theorem g_goodIn {ws : List Cond} (h : ∀ w ∈ ws, w ∈ g_ws) : GoodIn g_ws ws := fun w hw => ⟨h w hw, g_goodw (h w hw)⟩
theorem g_tb {i : Nat} {w : Cond} (h : tables_1[i]? = some w) (hg : goodWord w = true) : w ∈ g_ws := List.mem_filter.mpr ⟨List.mem_append_right _ (List.mem_of_getElem? h), hg⟩
theorem g_sel {i : Nat} {q : MethodName × Nat} (h : lw_privs[i]? = some q) (hg : goodWord (Cond.selects q.1.cls q.1 q.1) = true) : Cond.selects q.1.cls q.1 q.1 ∈ g_ws := List.mem_filter.mpr ⟨List.mem_append_left _ (List.mem_map.mpr ⟨q, List.mem_of_getElem? h, rfl⟩), hg⟩
def g_FL (own : String) (index ci k : Nat) (C : String) (T : u_T) (N : Nat) : Prop := g_cl[ci]? = some (C, T, N) ∧ k < N ∧ (∀ w ∈ u_ws C T N, w ∈ g_ws) ∧ Cond.fieldLink own index C (T k).2.1 (T k).2.2.1 ∈ g_ws ∧ (T k).1 = C
def g_FT (C : String) (T : u_T) (N : Nat) (ty0 : Nat → FieldType) : Prop := (∀ k, k < N → parseFieldDescriptor (T k).2.2.1 = some (ty0 k)) ∧ (∀ a, a < N → ∀ b, b < N → a ≠ b → (T a).2.1 ≠ (T b).2.1)
def g_MK (own : String) (idx : Nat) (y : MethodName) (b : ByteArray) (mL : Nat) (rt : Option FieldType) (n : Nat) : Prop :=
  Cond.methodLink own idx y ∈ g_ws ∧ Cond.initialized y.cls ∈ g_ws ∧ Cond.code y b mL rt ∈ g_ws ∧ (y.cls ≠ "java/lang/invoke/MethodHandle" ∧ y.cls ≠ "java/lang/invoke/VarHandle") ∧ (parseMethodDescriptor y.desc).map (fun d => d.parameters.length) = some n
def g_MV (own : String) (idx : Nat) (y : MethodName) (b : ByteArray) (mL : Nat) (rt : Option FieldType) (n : Nat) : Prop :=
  g_MK own idx y b mL rt n ∧ Cond.instanceMethod y ∈ g_ws ∧ Cond.selects y.cls y y ∈ g_ws
def g_MS (own : String) (idx : Nat) (y : MethodName) (b : ByteArray) (mL : Nat) (rt : Option FieldType) (n : Nat) : Prop :=
  g_MK own idx y b mL rt n ∧ Cond.static y ∈ g_ws
-- worlds
def g_tys (g : Nat → ClassId) : List (ClassId × FieldType) := [(g 0, .int), (g 1, .boolean), (g 2, .long), (g 3, .object "SpriteAtlas$State"), (g 4, .byte)]
def g_Wd (D : va_G) (A : Nat → Prop) (H0 H : Heap) (locs : List Loc) (ws : va_W) : Prop := va_P D g_cl ws H ∧ va_D A ws ∧ va_S A H0 H locs
def g_put : va_W → List Nat → va_W → va_W
  | ws, i :: is, c :: cs => (g_put ws is cs).set i c
  | ws, _, _ => ws
def g_Pre (D : va_G) (g : Nat → ClassId) (sz : Nat) (ws : va_W) (U : State) : Prop := U.heap.size = sz ∧ va_P D g_cl ws U.heap ∧ va_K D g_cl (g_tys g) U ∧ va_D (fun _ => True) ws
def g_Q (D : va_G) (A : Nat → Prop) (ws' : va_W) (rv : Option Value) : Array Value → State → Outcome → State → Prop := fun _ st oc t => (oc = .returned rv ∧ va_P D g_cl ws' t.heap) ∧ va_F A st t
def g_rm (fr lo : Nat) : Room := { frames := fr, cells := 0, slots := 0, locals := lo }
/-- a method that makes nothing: from the cells ws and these arguments it returns rv, and the cells are ws' -/
def g_Ct (l : Launch) (y : MethodName) (b : ByteArray) (mL : Nat) (rt : Option FieldType) (fr lo : Nat) (D : va_G) (g : Nat → ClassId) (As : List Value) (ws ws' : va_W) (rv : Option Value) : Prop :=
  ws'.map Prod.fst = ws.map Prod.fst ∧ ∀ sz, Met l y (.code y b mL rt :: g_ws) (g_rm fr lo) (va_Pc As (g_Pre D g sz ws)) (g_Q D (va_A ws sz) ws' rv) 0 0 (va_A ws sz)
abbrev g_M (D : va_G) (A : Nat → Prop) (ws' : va_W) (rv : Option Value) (below : List Frame) (args : Array Value) (s : State) : State → Prop := MQ below (g_Q D A ws' rv) args s 0 0 A
set_option maxHeartbeats 4000000 in
theorem g_start {l : Launch} {y : MethodName} {b : ByteArray} {mL : Nat} {rt : Option FieldType} {fr lo : Nat} {D : va_G} {g : Nat → ClassId} {As : List Value} {ws ws' : va_W} {rv : Option Value} (own : String) (hy : plainName y.cls = true) (hown : y.cls = own) (hlen : (lg_sl As).length ≤ mL) (hadr : ws'.map Prod.fst = ws.map Prod.fst)
    (body : ∀ (p : Program) (e : Env) (s : State) (m : MethodId) (args : Array Value) (below : List Frame) (meth : Method) (c : Code) (A : Nat → Prop) (ls : Array Slot) (Q : State → Prop), Q = g_M D A ws' rv below args s → p.tables.exec = Jvm.exec → c.code = b → meth.sig.returnType = rt → meth.locks = false → c.maxLocals = mL → s.vm.findClass own = some m.cls → (∀ w ∈ g_ws, w.before args s = true) → va_K D g_cl (g_tys g) s → (∀ q, s.heap.size ≤ q → A q) → g_Wd D A s.heap s.heap [] ws → lv_has ls mL (lv_args 0 As) → W p l e (g_rm fr lo) s m args below meth c s.heap [] 0 0 Q (F0 m 0 ls [])) : g_Ct l y b mL rt fr lo D g As ws ws' rv := by
  refine ⟨hadr, fun sz => ?_⟩
  refine Met.ofW (cc := b) (maxL := mL) (ret := rt) hy rfl ?_
  intro p e s m args below meth c s₁ B hml hv
  obtain ⟨rfl, hsz, hP, hK, hD0⟩ := hv
  have hts := atoms_spec (ws := .code y b mL rt :: g_ws) B.pre
  have hown' : s.vm.findClass own = some m.cls := by rw [← hown]; exact findClass_of_methodNamed B.named
  subst hsz
  have hD := hD0.self (sz := s.heap.size)
  have hA : ∀ q : Nat, s.heap.size ≤ q → va_A ws s.heap.size q := fun q h => Or.inr h
  have hl := lv_entry As (n := mL) hlen
  rw [lg_entry_eq]
  exact body p e s m _ below meth c _ _ _ rfl B.exec B.bytes B.returns B.notSynchronized hml hown' (fun w hw => hts w (List.mem_cons_of_mem _ hw)) hK hA ⟨hP, hD, va_S.rf⟩ hl
section RowsG
variable {p : Program} {l : Launch} {e : Env} {R : Room} {s : State} {m : MethodId} {args : Array Value} {below : List Frame} {meth : Method} {c : Code} {H : Heap} {locs : List Loc} {cells slots : Nat} {Q : State → Prop}
variable {cc : ByteArray} {pc : Nat} {ls : Array Slot} {rest : List Value} {D : va_G} {g : Nat → ClassId} {A : Nat → Prop} {ws ws' : va_W} {a : Nat}
theorem g_topi {x v : Int32} (hx : x = v) (k : W p l e R s m args below meth c H locs cells slots Q (F0 m pc ls (.int x :: rest))) : W p l e R s m args below meth c H locs cells slots Q (F0 m pc ls (.int v :: rest)) := hx ▸ k
theorem g_topl {x v : Int64} (hx : x = v) (k : W p l e R s m args below meth c H locs cells slots Q (F0 m pc ls (.long x :: rest))) : W p l e R s m args below meth c H locs cells slots Q (F0 m pc ls (.long v :: rest)) := hx ▸ k
theorem g_wd {H1 : Heap} {locs1 : List Loc} (hS : g_Wd D A s.heap H locs ws) (hP : va_P D g_cl ws' H1) (hD : va_D A ws') (hS1 : va_S A s.heap H1 locs1) : g_Wd D A s.heap H1 locs1 ws' := ⟨hP, hD, hS1⟩
theorem g_get (hx : p.tables.exec = Jvm.exec) (hb : c.code = cc) (hT : ∀ w ∈ g_ws, w.before args s = true) (hK : va_K D g_cl (g_tys g) s) {own C : String} (hown : s.vm.findClass own = some m.cls) {index ci k N : Nat} {T : u_T} (hf : g_FL own index ci k C T N) (hw : g_Wd D A s.heap H locs ws) (q0 : Nat) {fs : List Value} (he : ws[q0]? = some (a, .inr (ci, fs))) {v : Value} (hv : fs[k]? = some v) (hdg : decode cc pc = .ok (.getfield index, 3))
    (kk : W p l e R s m args below meth c H locs cells slots Q (F0 m (pc + 3) ls (v :: rest))) : W p l e R s m args below meth c H locs cells slots Q (F0 m pc ls (.ref a :: rest)) :=
  va_get (D := D) (C := C) (T := T) (N := N) hx hb hT hf.2.2.1 hown hK hw.1 q0 he hf.1 k hf.2.1 (hT _ hf.2.2.2.1) (fun _ h9 => by rw [hf.2.2.2.2] at h9; exact h9) hv hdg kk
theorem g_putf (hx : p.tables.exec = Jvm.exec) (hb : c.code = cc) (hT : ∀ w ∈ g_ws, w.before args s = true) (hK : va_K D g_cl (g_tys g) s) {own C : String} (hown : s.vm.findClass own = some m.cls) {index ci k N : Nat} {T : u_T} (hf : g_FL own index ci k C T N) {ty0 : Nat → FieldType} (hft : g_FT C T N ty0) (hw : g_Wd D A s.heap H locs ws) (q0 : Nat) {fs : List Value} (he : ws[q0]? = some (a, .inr (ci, fs))) (hfin : (T k).2.2.2 = false) {v : Value} (hn : narrow (ty0 k) v = v) (hfit : fits (ty0 k) v = true) (hl : k < fs.length) (hset : ws.set q0 (a, .inr (ci, fs.set k v)) = ws') (hdg : decode cc pc = .ok (.putfield index, 3))
    (kk : ∀ (H1 : Heap) (locs1 : List Loc), g_Wd D A s.heap H1 locs1 ws' → W p l e R s m args below meth c H1 locs1 cells slots Q (F0 m (pc + 3) ls rest)) : W p l e R s m args below meth c H locs cells slots Q (F0 m pc ls (v :: .ref a :: rest)) := by
  subst hset
  exact va_put (D := D) (C := C) (T := T) (N := N) hx hb hT hf.2.2.1 ty0 hft.1 hft.2 hown hK hw.1 hw.2.1 hw.2.2 q0 he hf.1 k hf.2.1 (hT _ hf.2.2.2.1) (fun _ h9 => by rw [hf.2.2.2.2] at h9; exact h9) hfin (hft.1 k hf.2.1) hn hfit hl hdg (fun H1 locs1 a1 a2 a3 => kk H1 locs1 ⟨a1, a2, a3⟩)
theorem g_iald (hx : p.tables.exec = Jvm.exec) (hb : c.code = cc) (hK : va_K D g_cl (g_tys g) s) (hw : g_Wd D A s.heap H locs ws) (q0 : Nat) {n : Nat} {f : Nat → Int32} (ha : ws[q0]? = some (a, .inl (g 0, n, .inl f))) {i x : Int32} (hi : vp_in i n) (hv : x = f i.toNatClampNeg) (hdg : decode cc pc = .ok (.iaload, 1))
    (kk : W p l e R s m args below meth c H locs cells slots Q (F0 m (pc + 1) ls (.int x :: rest))) : W p l e R s m args below meth c H locs cells slots Q (F0 m pc ls (.int i :: .ref a :: rest)) := by
  subst hv
  exact va_iald hx hb hK hw.1 q0 0 ha rfl hi hdg kk
theorem g_zald (hx : p.tables.exec = Jvm.exec) (hb : c.code = cc) (hK : va_K D g_cl (g_tys g) s) (hw : g_Wd D A s.heap H locs ws) (q0 : Nat) {n : Nat} {f : Nat → Int32} (ha : ws[q0]? = some (a, .inl (g 1, n, .inl f))) {i x : Int32} (hi : vp_in i n) (hv : x = f i.toNatClampNeg) (hdg : decode cc pc = .ok (.baload, 1))
    (kk : W p l e R s m args below meth c H locs cells slots Q (F0 m (pc + 1) ls (.int x :: rest))) : W p l e R s m args below meth c H locs cells slots Q (F0 m pc ls (.int i :: .ref a :: rest)) := by
  subst hv
  exact va_zald hx hb hK hw.1 q0 1 ha rfl hi hdg kk
theorem g_lald (hx : p.tables.exec = Jvm.exec) (hb : c.code = cc) (hK : va_K D g_cl (g_tys g) s) (hw : g_Wd D A s.heap H locs ws) (q0 : Nat) {n : Nat} {f : Nat → Int64} (ha : ws[q0]? = some (a, .inl (g 2, n, .inr (.inl f)))) {i : Int32} {x : Int64} (hi : vp_in i n) (hv : x = f i.toNatClampNeg) (hdg : decode cc pc = .ok (.laload, 1))
    (kk : W p l e R s m args below meth c H locs cells slots Q (F0 m (pc + 1) ls (.long x :: rest))) : W p l e R s m args below meth c H locs cells slots Q (F0 m pc ls (.int i :: .ref a :: rest)) := by
  subst hv
  exact va_lald hx hb hK hw.1 q0 2 ha rfl hi hdg kk
theorem g_iast (hx : p.tables.exec = Jvm.exec) (hb : c.code = cc) (hK : va_K D g_cl (g_tys g) s) (hw : g_Wd D A s.heap H locs ws) (q0 : Nat) {n : Nat} {f f1 : Nat → Int32} (ha : ws[q0]? = some (a, .inl (g 0, n, .inl f))) {i x : Int32} (hi : vp_in i n) (hv : f1 = upd f i.toNatClampNeg x) (hset : ws.set q0 (a, .inl (g 0, n, .inl f1)) = ws') (hdg : decode cc pc = .ok (.iastore, 1))
    (kk : ∀ (H1 : Heap) (locs1 : List Loc), g_Wd D A s.heap H1 locs1 ws' → W p l e R s m args below meth c H1 locs1 cells slots Q (F0 m (pc + 1) ls rest)) : W p l e R s m args below meth c H locs cells slots Q (F0 m pc ls (.int x :: .int i :: .ref a :: rest)) := by
  subst hv; subst hset
  exact va_iast hx hb hK hw.1 hw.2.1 hw.2.2 q0 0 ha rfl hi hdg (fun H1 locs1 a1 a2 a3 => kk H1 locs1 ⟨a1, a2, a3⟩)
theorem g_zast (hx : p.tables.exec = Jvm.exec) (hb : c.code = cc) (hK : va_K D g_cl (g_tys g) s) (hw : g_Wd D A s.heap H locs ws) (q0 : Nat) {n : Nat} {f f1 : Nat → Int32} (ha : ws[q0]? = some (a, .inl (g 1, n, .inl f))) {i x : Int32} (hi : vp_in i n) (hv : f1 = upd f i.toNatClampNeg (vp_nar .boolean x)) (hset : ws.set q0 (a, .inl (g 1, n, .inl f1)) = ws') (hdg : decode cc pc = .ok (.bastore, 1))
    (kk : ∀ (H1 : Heap) (locs1 : List Loc), g_Wd D A s.heap H1 locs1 ws' → W p l e R s m args below meth c H1 locs1 cells slots Q (F0 m (pc + 1) ls rest)) : W p l e R s m args below meth c H locs cells slots Q (F0 m pc ls (.int x :: .int i :: .ref a :: rest)) := by
  subst hv; subst hset
  exact va_zast hx hb hK hw.1 hw.2.1 hw.2.2 q0 1 ha rfl hi hdg (fun H1 locs1 a1 a2 a3 => kk H1 locs1 ⟨a1, a2, a3⟩)
theorem g_last (hx : p.tables.exec = Jvm.exec) (hb : c.code = cc) (hK : va_K D g_cl (g_tys g) s) (hw : g_Wd D A s.heap H locs ws) (q0 : Nat) {n : Nat} {f f1 : Nat → Int64} (ha : ws[q0]? = some (a, .inl (g 2, n, .inr (.inl f)))) {i : Int32} {x : Int64} (hi : vp_in i n) (hv : f1 = vp_updL f i.toNatClampNeg x) (hset : ws.set q0 (a, .inl (g 2, n, .inr (.inl f1))) = ws') (hdg : decode cc pc = .ok (.lastore, 1))
    (kk : ∀ (H1 : Heap) (locs1 : List Loc), g_Wd D A s.heap H1 locs1 ws' → W p l e R s m args below meth c H1 locs1 cells slots Q (F0 m (pc + 1) ls rest)) : W p l e R s m args below meth c H locs cells slots Q (F0 m pc ls (.long x :: .int i :: .ref a :: rest)) := by
  subst hv; subst hset
  exact va_last hx hb hK hw.1 hw.2.1 hw.2.2 q0 2 ha rfl hi hdg (fun H1 locs1 a1 a2 a3 => kk H1 locs1 ⟨a1, a2, a3⟩)
theorem g_alenI (hx : p.tables.exec = Jvm.exec) (hb : c.code = cc) (hK : va_K D g_cl (g_tys g) s) (hw : g_Wd D A s.heap H locs ws) (q0 t0 : Nat) {cA : ClassId} {ty : FieldType} {x : vp_A} (ha : ws[q0]? = some (a, .inl (cA, x))) (ht : (g_tys g)[t0]? = some (cA, ty)) {v : Int32} (hv : Int32.ofNat x.1 = v) (hdg : decode cc pc = .ok (.arraylength, 1))
    (kk : W p l e R s m args below meth c H locs cells slots Q (F0 m (pc + 1) ls (.int v :: rest))) : W p l e R s m args below meth c H locs cells slots Q (F0 m pc ls (.ref a :: rest)) :=
  va_alen hx hb hK hw.1 q0 t0 ha ht hv hdg kk
theorem g_iret {rv : Option Value} {v : Int32} (hQ : Q = g_M D A ws' rv below args s) (hx : p.tables.exec = Jvm.exec) (hb : c.code = cc) (hr : meth.sig.returnType = some .int) (hlocks : meth.locks = false) (hw : g_Wd D A s.heap H locs ws') (hrv : rv = some (.int v)) (hdg : decode cc pc = .ok (.ireturn, 1)) : W p l e R s m args below meth c H locs 0 0 Q (F0 m pc ls [.int v]) := by
  subst hrv; subst hQ
  exact W.iret hx hb hr (fun t ht _ => ⟨⟨rfl, by rw [ht]; exact hw.1⟩, hw.2.2.F ht⟩) hw.2.2.2.2 hdg hlocks
theorem g_zret {rv : Option Value} {v : Int32} (hQ : Q = g_M D A ws' rv below args s) (hx : p.tables.exec = Jvm.exec) (hb : c.code = cc) (hr : meth.sig.returnType = some .boolean) (hlocks : meth.locks = false) (hz : v = 0 ∨ v = 1) (hw : g_Wd D A s.heap H locs ws') (hrv : rv = some (.int v)) (hdg : decode cc pc = .ok (.ireturn, 1)) : W p l e R s m args below meth c H locs 0 0 Q (F0 m pc ls [.int v]) := by
  subst hrv; subst hQ
  exact W.zret hx hb hr (by rcases hz with rfl | rfl <;> rfl) (fun t ht _ => ⟨⟨rfl, by rw [ht]; exact hw.1⟩, hw.2.2.F ht⟩) hw.2.2.2.2 hdg hlocks
theorem g_lret {rv : Option Value} {v : Int64} (hQ : Q = g_M D A ws' rv below args s) (hx : p.tables.exec = Jvm.exec) (hb : c.code = cc) (hr : meth.sig.returnType = some .long) (hlocks : meth.locks = false) (hw : g_Wd D A s.heap H locs ws') (hrv : rv = some (.long v)) (hdg : decode cc pc = .ok (.lreturn, 1)) : W p l e R s m args below meth c H locs 0 0 Q (F0 m pc ls [.long v]) := by
  subst hrv; subst hQ
  exact W.lret hx hb hr (fun t ht _ => ⟨⟨rfl, by rw [ht]; exact hw.1⟩, hw.2.2.F ht⟩) hw.2.2.2.2 hdg hlocks
theorem g_vret {rv : Option Value} (hQ : Q = g_M D A ws' rv below args s) (hx : p.tables.exec = Jvm.exec) (hb : c.code = cc) (hr : meth.sig.returnType = none) (hlocks : meth.locks = false) (hw : g_Wd D A s.heap H locs ws') (hrv : rv = none) (hdg : decode cc pc = .ok (.return_, 1)) : W p l e R s m args below meth c H locs 0 0 Q (F0 m pc ls []) := by
  subst hrv; subst hQ
  exact W.vret hx hb hr (fun t ht _ => ⟨⟨rfl, by rw [ht]; exact hw.1⟩, hw.2.2.F ht⟩) hw.2.2.2.2 hdg hlocks
end RowsG
