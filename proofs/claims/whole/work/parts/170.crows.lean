/-! constructors -/
def nNest : List (String × Nat × MethodName) := [("SpriteAtlas", 11, yX9_init), ("SpriteAtlas", 32, yX8_init), ("SpriteAtlas", 46, yX0_init), ("SpriteAtlas$History", 17, yX8_init), ("SpriteAtlas$State", 9, yX6_init), ("SpriteAtlas$State", 18, yX5_init), ("SpriteAtlas$Packer", 11, yX7_init), ("SpriteAtlas$Packer", 20, yX1_init)]
def e_In : (Nat → Prop) → State → Heap → Prop := fun A U H => va_Z "java/lang/String" "COMPACT_STRINGS" "Z" (.int 1) A U H ∧ va_AO "SpriteAtlas$State" U ∧ ∀ q ∈ nNest, va_Nw (.methodLinkNest q.1 q.2.1 q.2.2 "SpriteAtlas") U
theorem n_ok : s_ok e_In := by
  refine ⟨?_, ?_, ?_, ?_⟩
  · rintro A U U' H hW ⟨h1, h2, h3⟩
    exact ⟨h1.moved hW.alike, h2.moved hW.alike, fun q hq => (h3 q hq).warmM hW⟩
  · rintro A U H H1 hq ⟨h1, h2, h3⟩
    exact ⟨h1.kept hq, h2, h3⟩
  · rintro A B U H hq ⟨h1, h2, h3⟩
    exact ⟨h1.narrow hq, h2, h3⟩
  · rintro A U H g' mk a ⟨h1, h2, h3⟩
    have hv : U.vm.Alike (U.calling g' mk a).vm := Vm.Alike.refl U.vm
    exact ⟨h1.moved hv, h2.moved hv, fun q hq => (h3 q hq).same rfl rfl⟩
set_option maxHeartbeats 4000000 in
theorem n_start {l : Launch} {y : MethodName} {b : ByteArray} {mL : Nat} {rt : Option FieldType} {fr mc ms lo : Nat} {E : (Nat → Prop) → State → Heap → Prop} {D : va_G} {g : Nat → ClassId} {As : List Value} {ws : va_W} {post : Option Value → va_W → Prop} (own : String) (hy : plainName y.cls = true) (hown : y.cls = own) (hnm : y.name = "<init>") (hlen : (lg_sl As).length ≤ mL)
    (body : ∀ (p : Program) (e : Env) (s : State) (m : MethodId) (args : Array Value) (below : List Frame) (meth : Method) (c : Code) (A : Nat → Prop) (ls : Array Slot) (Q : State → Prop), Q = MQ below (s_Q D A post) args s mc ms A → p.tables.exec = Jvm.exec → c.code = b → meth.sig.returnType = rt → meth.locks = false → c.maxLocals = mL → s.vm.findClass own = some m.cls → (∀ w ∈ g_ws, w.before args s = true) → va_K D g_cl (g_tys g) s → (∀ q, s.heap.size ≤ q → A q) → E A s s.heap → g_Wd D A s.heap s.heap [] ws → lv_has ls mL (lv_args 0 As) → meth.name = "<init>" → W p l e (s_rm fr mc ms lo) s m args below meth c s.heap [] 0 0 Q (F0 m 0 ls [])) : s_Ct l y b mL rt fr mc ms lo E D g As ws post := by
  intro sz
  refine Met.ofW (cc := b) (maxL := mL) (ret := rt) hy rfl ?_
  intro p e s m args below meth c s₁ B hml hv
  obtain ⟨rfl, ⟨hsz, hP, hK, hD0⟩, hE⟩ := hv
  have hts := atoms_spec (ws := .code y b mL rt :: g_ws) B.pre
  have hown' : s.vm.findClass own = some m.cls := by rw [← hown]; exact findClass_of_methodNamed B.named
  have hmn : meth.name = "<init>" := (name_of_methodNamed B.named B.method).1.trans hnm
  subst hsz
  have hD := hD0.self (sz := s.heap.size)
  have hA : ∀ q : Nat, s.heap.size ≤ q → va_A ws s.heap.size q := fun q h => Or.inr h
  have hl := lv_entry As (n := mL) hlen
  rw [lg_entry_eq]
  exact body p e s m _ below meth c _ _ _ rfl B.exec B.bytes B.returns B.notSynchronized hml hown' (fun w hw => hts w (List.mem_cons_of_mem _ hw)) hK hA hE ⟨hP, hD, va_S.rf⟩ hl hmn
def g_NW (own : String) (idx ci : Nat) (C : String) (T : u_T) (N : Nat) : Prop := g_cl[ci]? = some (C, T, N) ∧ Cond.classLink own idx C ∈ g_ws ∧ Cond.instantiable C N ∈ g_ws ∧ Cond.initialized C ∈ g_ws
section RowsI
variable {p : Program} {l : Launch} {e : Env} {R : Room} {s : State} {m : MethodId} {args : Array Value} {below : List Frame} {meth : Method} {c : Code} {H : Heap} {locs : List Loc} {cells slots : Nat} {Q : State → Prop}
variable {cc : ByteArray} {pc : Nat} {ls : Array Slot} {rest st : List Value} {D : va_G} {g : Nat → ClassId} {A : Nat → Prop} {ws ws' wc wr : va_W} {a : Nat} {E : (Nat → Prop) → State → Heap → Prop} {mc ms : Nat} {post : Option Value → va_W → Prop}
theorem n_obj (hx : p.tables.exec = Jvm.exec) (hb : c.code = cc) {nL : Nat} (hml : c.maxLocals = nL) (hls : ls.size = nL) {own : String} {idx : Nat} (hown : s.vm.findClass own = some m.cls) (hT : ∀ w ∈ g_ws, w.before args s = true) (h1 : Cond.methodLink own idx Lib.objectInit ∈ g_ws) (h2 : Cond.instanceMethod Lib.objectInit ∈ g_ws) (h3 : Cond.code Lib.objectInit ⟨#[0xb1]⟩ 1 none ∈ g_ws) (hframes : 1 ≤ R.frames) (hlocals : (rest.map fun v => v.category).sum + 12 ≤ R.locals) (hdg : decode cc pc = .ok (.invokespecial idx, 3))
    (kk : W p l e R s m args below meth c H locs cells slots Q (F0 m (pc + 3) ls rest)) : W p l e R s m args below meth c H locs cells slots Q (F0 m pc ls (.ref a :: rest)) :=
  W.objInit hx hb hown (hT _ h1) (hT _ h2) (hT _ h3) rfl (hls.trans hml.symm) rfl hdg hframes (by show 2 * 0 + _ + 12 ≤ _; omega) kk
theorem n_new (hx : p.tables.exec = Jvm.exec) (hb : c.code = cc) (hT : ∀ w ∈ g_ws, w.before args s = true) {own C : String} {idx ci N : Nat} {T : u_T} (hown : s.vm.findClass own = some m.cls) (hf : g_NW own idx ci C T N) (hin : ∀ w ∈ u_ws C T N, w ∈ g_ws) {ty : Nat → FieldType} (hft : g_FT C T N ty) (hK : va_K D g_cl (g_tys g) s) (hA : ∀ q, s.heap.size ≤ q → A q) (hw : g_Wd D A s.heap H locs ws) {fs : List Value} (hfs : ∀ j, j < N → defaultValue (ty j) = vp_V fs j) (hRc : cells + 1 ≤ R.cells ∧ slots + N ≤ R.slots) (hdg : decode cc pc = .ok (.new idx, 3))
    (kk : ∀ (q : Nat) (H1 : Heap), g_Wd D A s.heap H1 locs (ws ++ [(q, .inr (ci, fs))]) → W p l e R s m args below meth c H1 locs (cells + 1) (slots + N) Q (F0 m (pc + 3) ls (.ref q :: rest))) : W p l e R s m args below meth c H locs cells slots Q (F0 m pc ls rest) :=
  va_new hx hb hT hin ty hft.1 hown (hT _ hf.2.1) (hT _ hf.2.2.1) (hT _ hf.2.2.2) hK hw.1 hw.2.1 hw.2.2 hA hf.1 hfs hRc.1 hRc.2 hdg (fun q H1 a1 a2 a3 => kk q H1 ⟨a1, a2, a3⟩)
theorem n_putF (hx : p.tables.exec = Jvm.exec) (hb : c.code = cc) (hT : ∀ w ∈ g_ws, w.before args s = true) (hK : va_K D g_cl (g_tys g) s) {own C : String} (hown : s.vm.findClass own = some m.cls) {index ci k N : Nat} {T : u_T} (hf : g_FL own index ci k C T N) {ty0 : Nat → FieldType} (hft : g_FT C T N ty0) (hw : g_Wd D A s.heap H locs ws) (q0 : Nat) {fs : List Value} (he : ws[q0]? = some (a, .inr (ci, fs))) (hfin : (T k).2.2.2 = true) (hmn : meth.name = "<init>") (hdecl : (T k).1 = own) {v : Value} (hn : narrow (ty0 k) v = v) (hfit : fits (ty0 k) v = true) (hl : k < fs.length) (hset : ws.set q0 (a, .inr (ci, fs.set k v)) = ws') (hdg : decode cc pc = .ok (.putfield index, 3))
    (kk : ∀ (H1 : Heap) (locs1 : List Loc), g_Wd D A s.heap H1 locs1 ws' → W p l e R s m args below meth c H1 locs1 cells slots Q (F0 m (pc + 3) ls rest)) : W p l e R s m args below meth c H locs cells slots Q (F0 m pc ls (v :: .ref a :: rest)) := by
  subst hset
  exact va_putF (D := D) (C := C) (T := T) (N := N) hx hb hT hf.2.2.1 ty0 hft.1 hft.2 hown hK hw.1 hw.2.1 hw.2.2 q0 he hf.1 k hf.2.1 (hT _ hf.2.2.2.1) (fun _ h9 => by rw [hf.2.2.2.2] at h9; exact h9) hfin hmn hdecl (hft.1 k hf.2.1) hn hfit hl hdg (fun H1 locs1 a1 a2 a3 => kk H1 locs1 ⟨a1, a2, a3⟩)
theorem n_callI {own : String} {idx : Nat} {y : MethodName} {b : ByteArray} {mL nL : Nat} {fr lo n : Nat} {As : List Value} (hx : p.tables.exec = Jvm.exec) (hb : c.code = cc) (hml : c.maxLocals = nL) (hown : s.vm.findClass own = some m.cls) (hT : ∀ w ∈ g_ws, w.before args s = true) (hK : va_K D g_cl (g_tys g) s) (hA : ∀ q, s.heap.size ≤ q → A q) (hE : s_ok E) (hE0 : E A s s.heap) (hw : g_Wd D A s.heap H locs ws)
    (hM : g_MK own idx y b mL none n) (hnm : y.name = "<init>") (hin : Cond.instanceMethod y ∈ g_ws) (hC : s_Ct l y b mL none fr mc ms lo E D g (.ref a :: As) wc post) (isC isR : List Nat) (hC1 : isC.map (fun i => ws[i]?) = wc.map some) (hnd : va_nd isC = true) (hR1 : isR.map (fun i => ws[i]?) = wr.map some) (hnR : va_nd isR = true) (hdis : ∀ i ∈ isR, i ∉ isC)
    (hn : As.length = n) (hls : ls.size = nL) (rest : List Value) (hst : st = As.reverse ++ .ref a :: rest) (hrm : (rest.map fun v => v.category).sum ≤ 8) (hR : fr + 1 ≤ R.frames ∧ 8 + (mL + 11) + lo ≤ R.locals) (hRc : cells + mc ≤ R.cells ∧ slots + ms ≤ R.slots) (hdg : decode cc pc = .ok (.invokespecial idx, 3))
    (kk : ∀ (rv : Option Value) (w1 : va_W) (H1 : Heap) (locs1 : List Loc), post rv w1 → g_Wd D A s.heap H1 locs1 (wr ++ w1) → W p l e R s m args below meth c H1 locs1 (cells + mc) (slots + ms) Q (F0 m (pc + 3) ls (rv.toList ++ rest))) : W p l e R s m args below meth c H locs cells slots Q (F0 m pc ls st) := by
  subst hst
  have hrm2 : 2 * (F0 m pc ls (As.reverse ++ .ref a :: rest)).monitorRoom + (rest.map fun v => v.category).sum ≤ 8 := lv_room hrm
  exact s_after (va_runI (As := As) (rest := rest) ⟨hx, hb, hml, hown, hT⟩ (hC H.size) ⟨s_callB hT hM hR, hnm, hT _ hin⟩
    ⟨s_blind hE, s_pre hE hE0 hK hw hA isC hC1 hnd⟩ rfl hn hls rfl hrm2 hdg hRc) hw hA isC isR hC1 hR1 hnR hdis kk
def g_MN (y : MethodName) (b : ByteArray) (mL n : Nat) : Prop := Cond.initialized y.cls ∈ g_ws ∧ Cond.code y b mL none ∈ g_ws ∧ (y.cls ≠ "java/lang/invoke/MethodHandle" ∧ y.cls ≠ "java/lang/invoke/VarHandle") ∧ (parseMethodDescriptor y.desc).map (fun d => d.parameters.length) = some n
theorem n_callN {own : String} {idx : Nat} {y : MethodName} {b : ByteArray} {mL nL : Nat} {fr lo n : Nat} {As : List Value} (hx : p.tables.exec = Jvm.exec) (hb : c.code = cc) (hml : c.maxLocals = nL) (hown : s.vm.findClass own = some m.cls) (hT : ∀ w ∈ g_ws, w.before args s = true) (hK : va_K D g_cl (g_tys g) s) (hA : ∀ q, s.heap.size ≤ q → A q) (hE0 : e_In A s s.heap) (hw : g_Wd D A s.heap H locs ws)
    (hM : g_MN y b mL n) (i0 : Nat) (hi0 : nNest[i0]? = some (own, idx, y)) (hnm : y.name = "<init>") (hin : Cond.instanceMethod y ∈ g_ws) (hC : s_Ct l y b mL none fr mc ms lo e_In D g (.ref a :: As) wc post) (isC isR : List Nat) (hC1 : isC.map (fun i => ws[i]?) = wc.map some) (hnd : va_nd isC = true) (hR1 : isR.map (fun i => ws[i]?) = wr.map some) (hnR : va_nd isR = true) (hdis : ∀ i ∈ isR, i ∉ isC)
    (hn : As.length = n) (hls : ls.size = nL) (rest : List Value) (hst : st = As.reverse ++ .ref a :: rest) (hrm : (rest.map fun v => v.category).sum ≤ 8) (hR : fr + 1 ≤ R.frames ∧ 8 + (mL + 11) + lo ≤ R.locals) (hRc : cells + mc ≤ R.cells ∧ slots + ms ≤ R.slots) (hdg : decode cc pc = .ok (.invokespecial idx, 3))
    (kk : ∀ (rv : Option Value) (w1 : va_W) (H1 : Heap) (locs1 : List Loc), post rv w1 → g_Wd D A s.heap H1 locs1 (wr ++ w1) → W p l e R s m args below meth c H1 locs1 (cells + mc) (slots + ms) Q (F0 m (pc + 3) ls (rv.toList ++ rest))) : W p l e R s m args below meth c H locs cells slots Q (F0 m pc ls st) := by
  subst hst
  have hrm2 : 2 * (F0 m pc ls (As.reverse ++ .ref a :: rest)).monitorRoom + (rest.map fun v => v.category).sum ≤ 8 := lv_room hrm
  obtain ⟨h2, h3, h4, h5⟩ := hM
  exact s_after (va_runIN (host := "SpriteAtlas") (As := As) (rest := rest) ⟨hx, hb, hml, hown, hT⟩ (hC H.size) ⟨⟨⟨rfl, rfl, hR.1, hR.2, fun w hw a' U hW => by
      have hm : w ∈ g_ws := by
        rcases List.mem_cons.mp hw with rfl | h
        · exact h3
        · exact h
      exact word_at hW (g_goodw hm) (hT w hm), List.mem_cons_self⟩, hT _ h3, hT _ h2, h4, fun sig hs => by
      rw [hs] at h5
      exact (Option.some.inj h5).symm, va_Nw.use rfl (hE0.2.2 _ (List.mem_of_getElem? hi0))⟩, hnm, hT _ hin⟩
    ⟨s_blind n_ok, s_pre n_ok hE0 hK hw hA isC hC1 hnd⟩ rfl hn hls rfl hrm2 hdg hRc) hw hA isC isR hC1 hR1 hnR hdis kk
theorem n_newq (hx : p.tables.exec = Jvm.exec) (hb : c.code = cc) (hT : ∀ w ∈ g_ws, w.before args s = true) {own : String} {idx : Nat} (hown : s.vm.findClass own = some m.cls) (hcl : Cond.classLink own idx "SpriteAtlas$State" ∈ g_ws) (hAO : va_AO "SpriteAtlas$State" s) (hK : va_K D g_cl (g_tys g) s) (hw : g_Wd D A s.heap H locs ws) (hA : ∀ q, s.heap.size ≤ q → A q)
    {n : Int32} {N' : Nat} (hn : ¬ n < 0) (hN : n.toNatClampNeg = N') (hbytes : N' * 4 ≤ 536870912) (hcells : cells + 1 ≤ R.cells) (hslots : slots + N' ≤ R.slots) (hdg : decode cc pc = .ok (.anewarray idx, 3))
    (kk : ∀ (q : Nat) (H1 : Heap), g_Wd D A s.heap H1 locs (ws ++ [(q, .inl (g 3, N', .inr (.inr (.inr (.inr (fun _ => none))))))]) →
      W p l e R s m args below meth c H1 locs (cells + 1) (slots + N') Q (F0 m (pc + 3) ls (.ref q :: rest))) : W p l e R s m args below meth c H locs cells slots Q (F0 m pc ls (.int n :: rest)) := by
  refine va_newq hx hb hown (hT _ hcl) hAO hK hw.1 hw.2.1 hw.2.2 hA hn hN hbytes hcells hslots hdg (fun q cA H1 hK1 hP1 hD1 hS1 => ?_)
  have h1 := (hK1.2 (g_tys g).length (cA, .object "SpriteAtlas$State") (by rw [List.getElem?_append_right (Nat.le_refl _), Nat.sub_self]; rfl)).2
  have h2 := (hK.2 3 (g 3, .object "SpriteAtlas$State") rfl).2
  have e := va_RA_inj h1 h2
  subst e
  exact kk q H1 ⟨hP1, hD1, hS1⟩
theorem n_aast (hx : p.tables.exec = Jvm.exec) (hb : c.code = cc) (hK : va_K D g_cl (g_tys g) s) (hw : g_Wd D A s.heap H locs ws) (q0 qk : Nat) {n v : Nat} {vs : List Value} {f f1 : Nat → Option Nat} (ha : ws[q0]? = some (a, .inl (g 3, n, .inr (.inr (.inr (.inr f)))))) (hv : ws[qk]? = some (v, .inr (9, vs))) {i : Int32} (hin : vp_in i n) (hf1 : f1 = va_up f i.toNatClampNeg (some v)) (hset : ws.set q0 (a, .inl (g 3, n, .inr (.inr (.inr (.inr f1))))) = ws') (hdg : decode cc pc = .ok (.aastore, 1))
    (kk : ∀ (H1 : Heap) (locs1 : List Loc), g_Wd D A s.heap H1 locs1 ws' → W p l e R s m args below meth c H1 locs1 cells slots Q (F0 m (pc + 1) ls rest)) : W p l e R s m args below meth c H locs cells slots Q (F0 m pc ls (.ref v :: .int i :: .ref a :: rest)) := by
  subst hf1; subst hset
  exact va_astq (r := (RX8, TX8, 3)) hx hb hK hw.1 hw.2.1 hw.2.2 q0 3 qk 9 ha rfl hv rfl hin hdg (fun H1 locs1 a1 a2 a3 => kk H1 locs1 ⟨a1, a2, a3⟩)
end RowsI
