/-! worlds as lists of blocks of cells -/
def b_P (D : va_G) (wb : List va_W) (H : Heap) : Prop := ∀ (b j : Nat) (B : va_W) (q : Nat × va_E), wb[b]? = some B → B[j]? = some q → va_at D g_cl q H
def b_D (A : Nat → Prop) (wb : List va_W) : Prop := (∀ (b j b' j' : Nat) (B B' : va_W) (q q' : Nat × va_E), wb[b]? = some B → B[j]? = some q → wb[b']? = some B' → B'[j']? = some q' → q.1 = q'.1 → b = b' ∧ j = j') ∧ ∀ (b j : Nat) (B : va_W) (q : Nat × va_E), wb[b]? = some B → B[j]? = some q → A q.1
def b_pos : List va_W → Nat → Nat → Nat
  | [], _, j => j
  | _ :: _, 0, j => j
  | X :: t, b + 1, j => X.length + b_pos t b j
theorem b_pos_get : ∀ (wb : List va_W) (b j : Nat) (B : va_W) (c : Nat × va_E), wb[b]? = some B → B[j]? = some c → wb.flatten[b_pos wb b j]? = some c
  | [], b, j, B, c, h, _ => by simp at h
  | X :: t, 0, j, B, c, h, h2 => by
    cases h
    rw [List.flatten_cons]
    show (X ++ t.flatten)[j]? = _
    rw [List.getElem?_append_left (List.getElem?_eq_some_iff.mp h2).1]
    exact h2
  | X :: t, b + 1, j, B, c, h, h2 => by
    have h3 := b_pos_get t b j B c (by simpa using h) h2
    rw [List.flatten_cons]
    show (X ++ t.flatten)[X.length + b_pos t b j]? = _
    rw [List.getElem?_append_right (by omega)]
    rw [show X.length + b_pos t b j - X.length = b_pos t b j by omega]
    exact h3
theorem b_pos_inj : ∀ (wb : List va_W) (b j b' j' : Nat) (B B' : va_W), wb[b]? = some B → j < B.length → wb[b']? = some B' → j' < B'.length → b_pos wb b j = b_pos wb b' j' → b = b' ∧ j = j'
  | [], b, j, b', j', B, B', h, _, _, _, _ => by simp at h
  | X :: t, 0, j, 0, j', B, B', h, hj, h', hj', e => ⟨rfl, e⟩
  | X :: t, 0, j, b' + 1, j', B, B', h, hj, h', hj', e => by
    cases h
    have e : j = X.length + b_pos t b' j' := e
    omega
  | X :: t, b + 1, j, 0, j', B, B', h, hj, h', hj', e => by
    cases h'
    have e : X.length + b_pos t b j = j' := e
    omega
  | X :: t, b + 1, j, b' + 1, j', B, B', h, hj, h', hj', e => by
    have e : X.length + b_pos t b j = X.length + b_pos t b' j' := e
    obtain ⟨h1, h2⟩ := b_pos_inj t b j b' j' B B' (by simpa using h) hj (by simpa using h') hj' (by omega)
    exact ⟨by omega, h2⟩
theorem b_ex : ∀ (wb : List va_W) (k : Nat) (q : Nat × va_E), wb.flatten[k]? = some q → ∃ (b j : Nat) (B : va_W), wb[b]? = some B ∧ B[j]? = some q ∧ b_pos wb b j = k
  | [], k, q, h => by simp at h
  | X :: t, k, q, h => by
    rw [List.flatten_cons] at h
    by_cases hk : k < X.length
    · rw [List.getElem?_append_left hk] at h
      exact ⟨0, k, X, rfl, h, rfl⟩
    · rw [List.getElem?_append_right (by omega)] at h
      obtain ⟨b, j, B, h1, h2, h3⟩ := b_ex t _ q h
      refine ⟨b + 1, j, B, by simpa using h1, h2, ?_⟩
      show X.length + b_pos t b j = k
      omega
theorem b_P_flat {D : va_G} {wb : List va_W} {H : Heap} (h : b_P D wb H) : va_P D g_cl wb.flatten H := fun k q hk => by
  obtain ⟨b, j, B, h1, h2, -⟩ := b_ex wb k q hk
  exact h b j B q h1 h2
theorem b_P_of {D : va_G} {wb : List va_W} {H : Heap} (h : va_P D g_cl wb.flatten H) : b_P D wb H := fun b j B q h1 h2 => h _ q (b_pos_get wb b j B q h1 h2)
theorem b_lt {B : va_W} {j : Nat} {q : Nat × va_E} (h : B[j]? = some q) : j < B.length := (List.getElem?_eq_some_iff.mp h).1
theorem b_D_flat {A : Nat → Prop} {wb : List va_W} (h : b_D A wb) : va_D A wb.flatten := by
  refine ⟨fun i j p q hi hj hpq => ?_, fun k q hk => ?_⟩
  · obtain ⟨b, x, B, h1, h2, h3⟩ := b_ex wb i p hi
    obtain ⟨b', x', B', h4, h5, h6⟩ := b_ex wb j q hj
    obtain ⟨e1, e2⟩ := h.1 b x b' x' B B' p q h1 h2 h4 h5 hpq
    subst e1; subst e2
    rw [← h3, ← h6]
  · obtain ⟨b, x, B, h1, h2, -⟩ := b_ex wb k q hk
    exact h.2 b x B q h1 h2
theorem b_D_of {A : Nat → Prop} {wb : List va_W} (h : va_D A wb.flatten) : b_D A wb := by
  refine ⟨fun b j b' j' B B' q q' h1 h2 h3 h4 e => ?_, fun b j B q h1 h2 => h.2 _ q (b_pos_get wb b j B q h1 h2)⟩
  exact b_pos_inj wb b j b' j' B B' h1 (b_lt h2) h3 (b_lt h4) (h.1 _ _ q q' (b_pos_get wb b j B q h1 h2) (b_pos_get wb b' j' B' q' h3 h4) e)
theorem b_set : ∀ (wb : List va_W) (b j : Nat) (B : va_W) (c : Nat × va_E), wb[b]? = some B → j < B.length → wb.flatten.set (b_pos wb b j) c = (wb.set b (B.set j c)).flatten
  | [], b, j, B, c, h, _ => by simp at h
  | X :: t, 0, j, B, c, h, h2 => by
    cases h
    show (X ++ t.flatten).set j c = (X.set j c ++ t.flatten)
    rw [List.set_append_left _ _ h2]
  | X :: t, b + 1, j, B, c, h, h2 => by
    have h3 := b_set t b j B c (by simpa using h) h2
    show (X ++ t.flatten).set (X.length + b_pos t b j) c = X ++ (t.set b (B.set j c)).flatten
    rw [List.set_append_right _ _ (by omega), ← h3, show X.length + b_pos t b j - X.length = b_pos t b j by omega]
def b_Wd (D : va_G) (A : Nat → Prop) (H0 H : Heap) (locs : List Loc) (wb : List va_W) : Prop := b_P D wb H ∧ b_D A wb ∧ va_S A H0 H locs
def b_Pre (D : va_G) (g : Nat → ClassId) (sz : Nat) (wb : List va_W) (U : State) : Prop := U.heap.size = sz ∧ b_P D wb U.heap ∧ va_K D g_cl (g_tys g) U ∧ b_D (fun _ => True) wb
def b_Q (D : va_G) (A : Nat → Prop) (wb' : List va_W) (rv : Option Value) : Array Value → State → Outcome → State → Prop := fun _ st oc t => (oc = .returned rv ∧ b_P D wb' t.heap) ∧ va_F A st t
/-- a method that makes nothing: from the cells of wb and these arguments it returns rv, and the cells are those of wb' -/
def b_Ct (l : Launch) (y : MethodName) (b : ByteArray) (mL : Nat) (rt : Option FieldType) (fr lo : Nat) (D : va_G) (g : Nat → ClassId) (As : List Value) (wb wb' : List va_W) (rv : Option Value) : Prop :=
  wb'.map (List.map Prod.fst) = wb.map (List.map Prod.fst) ∧ ∀ sz, Met l y (.code y b mL rt :: g_ws) (g_rm fr lo) (va_Pc As (b_Pre D g sz wb)) (b_Q D (va_A wb.flatten sz) wb' rv) 0 0 (va_A wb.flatten sz)
abbrev b_M (D : va_G) (A : Nat → Prop) (wb' : List va_W) (rv : Option Value) (below : List Frame) (args : Array Value) (s : State) : State → Prop := MQ below (b_Q D A wb' rv) args s 0 0 A
set_option maxHeartbeats 4000000 in
theorem b_start {l : Launch} {y : MethodName} {b : ByteArray} {mL : Nat} {rt : Option FieldType} {fr lo : Nat} {D : va_G} {g : Nat → ClassId} {As : List Value} {wb wb' : List va_W} {rv : Option Value} (own : String) (hy : plainName y.cls = true) (hown : y.cls = own) (hlen : (lg_sl As).length ≤ mL) (hadr : wb'.map (List.map Prod.fst) = wb.map (List.map Prod.fst))
    (body : ∀ (p : Program) (e : Env) (s : State) (m : MethodId) (args : Array Value) (below : List Frame) (meth : Method) (c : Code) (A : Nat → Prop) (ls : Array Slot) (Q : State → Prop), Q = b_M D A wb' rv below args s → p.tables.exec = Jvm.exec → c.code = b → meth.sig.returnType = rt → meth.locks = false → c.maxLocals = mL → s.vm.findClass own = some m.cls → (∀ w ∈ g_ws, w.before args s = true) → va_K D g_cl (g_tys g) s → (∀ q, s.heap.size ≤ q → A q) → b_Wd D A s.heap s.heap [] wb → lv_has ls mL (lv_args 0 As) → W p l e (g_rm fr lo) s m args below meth c s.heap [] 0 0 Q (F0 m 0 ls [])) : b_Ct l y b mL rt fr lo D g As wb wb' rv := by
  refine ⟨hadr, fun sz => ?_⟩
  refine Met.ofW (cc := b) (maxL := mL) (ret := rt) hy rfl ?_
  intro p e s m args below meth c s₁ B hml hv
  obtain ⟨rfl, hsz, hP, hK, hD0⟩ := hv
  have hts := atoms_spec (ws := .code y b mL rt :: g_ws) B.pre
  have hown' : s.vm.findClass own = some m.cls := by rw [← hown]; exact findClass_of_methodNamed B.named
  subst hsz
  have hD := b_D_of ((b_D_flat hD0).self (sz := s.heap.size))
  have hA : ∀ q : Nat, s.heap.size ≤ q → va_A wb.flatten s.heap.size q := fun q h => Or.inr h
  have hl := lv_entry As (n := mL) hlen
  rw [lg_entry_eq]
  exact body p e s m _ below meth c _ _ _ rfl B.exec B.bytes B.returns B.notSynchronized hml hown' (fun w hw => hts w (List.mem_cons_of_mem _ hw)) hK hA ⟨hP, hD, va_S.rf⟩ hl
def b_eqs (wb wb' : List va_W) : List Nat → Prop
  | [] => True
  | i :: t => wb[i]? = wb'[i]? ∧ b_eqs wb wb' t
theorem b_e0 {wb wb' : List va_W} : b_eqs wb wb' [] := trivial
theorem b_e1 {wb wb' : List va_W} {i : Nat} {t : List Nat} (h : wb[i]? = wb'[i]?) (h2 : b_eqs wb wb' t) : b_eqs wb wb' (i :: t) := ⟨h, h2⟩
theorem b_eqs_mem {wb wb' : List va_W} : ∀ {l : List Nat}, b_eqs wb wb' l → ∀ k ∈ l, wb[k]? = wb'[k]?
  | [], _, _, hk => by cases hk
  | i :: t, h, k, hk => by
    rcases List.mem_cons.mp hk with rfl | hk
    · exact h.1
    · exact b_eqs_mem h.2 k hk
theorem b_repl {D : va_G} {A0 : Nat → Prop} {wb wb' cb cb' : List va_W} {H H1 : Heap} (hP : b_P D wb H) (hD : b_D A0 wb) (isC isR : List Nat) (hC : isC.map (fun i => wb[i]?) = cb.map some) (hC2 : isC.map (fun i => wb'[i]?) = cb'.map some) (hR : b_eqs wb wb' isR) (hcov : ∀ k, k < wb'.length → k ∈ isC ∨ k ∈ isR) (hadr : cb'.map (List.map Prod.fst) = cb.map (List.map Prod.fst))
    (hk : ∀ q : Nat, q < H.size → ¬ va_A cb.flatten H.size q → H1[q]? = H[q]?) (hP1 : b_P D cb' H1) : b_P D wb' H1 ∧ b_D A0 wb' := by
  have hat : ∀ (l : List Nat) (w v : List va_W), l.map (fun i => w[i]?) = v.map some → ∀ (j i : Nat), l[j]? = some i → ∃ q, v[j]? = some q ∧ w[i]? = some q := by
    intro l w v hh j i hj
    have h1 : (l.map (fun i => w[i]?))[j]? = (v.map some)[j]? := by rw [hh]
    rw [List.getElem?_map, List.getElem?_map, hj] at h1
    cases hw : v[j]? with
    | none => rw [hw] at h1; cases h1
    | some q => rw [hw] at h1; exact ⟨q, rfl, Option.some.inj h1⟩
  have hat2 : ∀ (j : Nat) (q : va_W), cb[j]? = some q → ∃ i, isC[j]? = some i ∧ wb[i]? = some q := by
    intro j q hj
    have h1 : (isC.map (fun i => wb[i]?))[j]? = (cb.map some)[j]? := by rw [hC]
    rw [List.getElem?_map, List.getElem?_map, hj] at h1
    cases hw : isC[j]? with
    | none => rw [hw] at h1; cases h1
    | some i => rw [hw] at h1; exact ⟨i, rfl, Option.some.inj h1⟩
  have hrr : ∀ k, k ∈ isR → wb[k]? = wb'[k]? := fun k hm => b_eqs_mem hR k hm
  have key : ∀ (k : Nat) (B' : va_W), wb'[k]? = some B' → ((∃ (j : Nat) (B : va_W), isC[j]? = some k ∧ cb'[j]? = some B' ∧ wb[k]? = some B ∧ B'.map Prod.fst = B.map Prod.fst) ∨ (k ∉ isC ∧ wb[k]? = some B')) := by
    intro k B' hq
    by_cases hm : k ∈ isC
    · obtain ⟨j, hj⟩ := List.getElem?_of_mem hm
      obtain ⟨q1, h1, h2⟩ := hat isC wb' cb' hC2 j k hj
      rw [hq] at h2
      cases h2
      obtain ⟨q2, h3, h4⟩ := hat isC wb cb hC j k hj
      refine Or.inl ⟨j, q2, hj, h1, h4, ?_⟩
      have h5 : (cb'.map (List.map Prod.fst))[j]? = (cb.map (List.map Prod.fst))[j]? := by rw [hadr]
      rw [List.getElem?_map, List.getElem?_map, h1, h3] at h5
      exact Option.some.inj h5
    · refine Or.inr ⟨hm, ?_⟩
      rcases hcov k (List.getElem?_eq_some_iff.mp hq).1 with h | h
      · exact absurd h hm
      · rw [hrr k h]; exact hq
  have key2 : ∀ (k j : Nat) (B' : va_W) (q : Nat × va_E), wb'[k]? = some B' → B'[j]? = some q → ∃ B q0, wb[k]? = some B ∧ B[j]? = some q0 ∧ q0.1 = q.1 := by
    intro k j B' q h1 h2
    rcases key k B' h1 with ⟨_, B, -, -, h5, h6⟩ | ⟨-, h5⟩
    · have h7 : (B'.map Prod.fst)[j]? = (B.map Prod.fst)[j]? := by rw [h6]
      rw [List.getElem?_map, List.getElem?_map, h2] at h7
      cases hw : B[j]? with
      | none => rw [hw] at h7; cases h7
      | some q0 => rw [hw] at h7; exact ⟨B, q0, h5, hw, (Option.some.inj h7).symm⟩
    · exact ⟨B', q, h5, h2, rfl⟩
  refine ⟨fun k j B' q h1 h2 => ?_, fun b j b' j' B B' q q' h1 h2 h3 h4 e => ?_, fun b j B q h1 h2 => ?_⟩
  · rcases key k B' h1 with ⟨jj, B, h5, h6, -, -⟩ | ⟨h5, h6⟩
    · exact hP1 jj j B' q h6 h2
    · have h3 := hP k j B' q h6 h2
      refine h3.kept (hk q.1 h3.lt ?_)
      rintro (⟨kk, e, hj⟩ | hz)
      · obtain ⟨b2, j2, B2, h7, h8, -⟩ := b_ex cb kk (q.1, e) hj
        obtain ⟨i, h9, h10⟩ := hat2 b2 B2 h7
        have h11 := hD.1 i j2 k j B2 B' (q.1, e) q h10 h8 h6 h2 rfl
        exact h5 (h11.1 ▸ List.mem_of_getElem? h9)
      · exact absurd h3.lt (Nat.not_lt.mpr hz)
  · obtain ⟨X, x0, h5, h6, h7⟩ := key2 b j B q h1 h2
    obtain ⟨Y, y0, h8, h9, h10⟩ := key2 b' j' B' q' h3 h4
    exact hD.1 b j b' j' X Y x0 y0 h5 h6 h8 h9 (h7.trans (e.trans h10.symm))
  · obtain ⟨X, x0, h5, h6, h7⟩ := key2 b j B q h1 h2
    rw [← h7]
    exact hD.2 b j X x0 h5 h6
theorem b_sub {D : va_G} {A0 : Nat → Prop} {wb cb : List va_W} {H : Heap} (hP : b_P D wb H) (hD : b_D A0 wb) (isC : List Nat) (hC : isC.map (fun i => wb[i]?) = cb.map some) (hnd : va_nd isC = true) : b_P D cb H ∧ b_D A0 cb := by
  have hat2 : ∀ (j : Nat) (q : va_W), cb[j]? = some q → ∃ i, isC[j]? = some i ∧ wb[i]? = some q := by
    intro j q hj
    have h1 : (isC.map (fun i => wb[i]?))[j]? = (cb.map some)[j]? := by rw [hC]
    rw [List.getElem?_map, List.getElem?_map, hj] at h1
    cases hw : isC[j]? with
    | none => rw [hw] at h1; cases h1
    | some i => rw [hw] at h1; exact ⟨i, rfl, Option.some.inj h1⟩
  refine ⟨fun b j B q h1 h2 => ?_, fun b j b' j' B B' q q' h1 h2 h3 h4 e => ?_, fun b j B q h1 h2 => ?_⟩
  · obtain ⟨i, h3, h4⟩ := hat2 b B h1
    exact hP i j B q h4 h2
  · obtain ⟨i, h5, h6⟩ := hat2 b B h1
    obtain ⟨i', h7, h8⟩ := hat2 b' B' h3
    obtain ⟨e1, e2⟩ := hD.1 i j i' j' B B' q q' h6 h2 h8 h4 e
    subst e1
    exact ⟨va_nd_inj isC hnd b b' i h5 h7, e2⟩
  · obtain ⟨i, h3, h4⟩ := hat2 b B h1
    exact hD.2 i j B q h4 h2
theorem b_cov {n : Nat} {isC isR : List Nat} (h : (List.range n).all (fun k => isC.contains k || isR.contains k) = true) : ∀ k, k < n → k ∈ isC ∨ k ∈ isR := by
  intro k hk
  have := List.all_eq_true.mp h k (List.mem_range.mpr hk)
  simpa using this
theorem b_blind {D : va_G} {g : Nat → ClassId} {As : List Value} {sz : Nat} {wb : List va_W} : FrameBlind (va_Pc As (b_Pre D g sz wb)) := fun a U g' mk q => by
  obtain ⟨q0, q1, qP, qK, qD⟩ := q
  exact ⟨q0, q1, qP, va_K.moved (u := U) (U := U.calling g' mk a) (Vm.Alike.refl U.vm) qK, qD⟩
