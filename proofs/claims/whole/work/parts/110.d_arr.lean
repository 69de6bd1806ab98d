section RowsA
variable {p : Program} {l : Launch} {e : Env} {R : Room} {s : State} {m : MethodId} {args : Array Value} {below : List Frame} {meth : Method} {c : Code} {H : Heap} {locs : List Loc} {cells slots : Nat} {Q : State → Prop}
variable {cc : ByteArray} {pc : Nat} {ls : Array Slot} {rest st st2 : List Value} {D : va_G} {g : Nat → ClassId} {A : Nat → Prop} {wb wb' : List va_W} {B B' : va_W} {a : Nat}
/-- a static method of one array: its cell lies in a block -/
theorem b_callA {own : String} {idx : Nat} {y : MethodName} {bc : ByteArray} {mL nL : Nat} {rt : Option FieldType} {fr lo n : Nat} {As : List Value} {rv : Option Value} {x x' : va_E} (hx : p.tables.exec = Jvm.exec) (hb : c.code = cc) (hml : c.maxLocals = nL) (hown : s.vm.findClass own = some m.cls) (hT : ∀ w ∈ g_ws, w.before args s = true) (hK : va_K D g_cl (g_tys g) s) (hA : ∀ q, s.heap.size ≤ q → A q) (hw : b_Wd D A s.heap H locs wb)
    (hM : g_MS own idx y bc mL rt n) (hC : b_Ct l y bc mL rt fr lo D g As [[(a, x)]] [[(a, x')]] rv) (b j : Nat) (hB : wb[b]? = some B) (he : B[j]? = some (a, x)) (hn : As.length = n) (hls : ls.size = nL) (rest : List Value) (hst : st = As.reverse ++ rest) (hrm : (rest.map fun v => v.category).sum ≤ 8) (hR : fr + 1 ≤ R.frames ∧ 8 + (mL + 11) + lo ≤ R.locals) (hRc : cells + 0 ≤ R.cells ∧ slots + 0 ≤ R.slots) (hdg : decode cc pc = .ok (.invokestatic idx, 3)) (hset : B.set j (a, x') = B') (hwb : wb.set b B' = wb') (hst2 : rv.toList ++ rest = st2)
    (kk : ∀ (H1 : Heap) (locs1 : List Loc), b_Wd D A s.heap H1 locs1 wb' → W p l e R s m args below meth c H1 locs1 cells slots Q (F0 m (pc + 3) ls st2)) : W p l e R s m args below meth c H locs cells slots Q (F0 m pc ls st) := by
  subst hst; subst hst2
  have hrm2 : 2 * (F0 m pc ls (As.reverse ++ rest)).monitorRoom + (rest.map fun v => v.category).sum ≤ 8 := lv_room hrm
  have hPc : b_P D [[(a, x)]] H := by
    intro b1 j1 B1 q h1 h2
    match b1, h1 with
    | 0, h1 =>
      cases h1
      match j1, h2 with
      | 0, h2 => cases h2; exact hw.1 b j B _ hB he
      | j1 + 1, h2 => simp at h2
    | b1 + 1, h1 => simp at h1
  have hDc : b_D (fun _ => True) [[(a, x)]] := by
    refine ⟨fun b1 j1 b2 j2 B1 B2 q q' h1 h2 h3 h4 _ => ?_, fun _ _ _ _ _ _ => trivial⟩
    have e1 : b1 = 0 := by
      have := (List.getElem?_eq_some_iff.mp h1).1
      simp at this
      exact this
    have e2 : b2 = 0 := by
      have := (List.getElem?_eq_some_iff.mp h3).1
      simp at this
      exact this
    subst e1; subst e2
    cases h1; cases h3
    have e3 := (List.getElem?_eq_some_iff.mp h2).1
    have e4 := (List.getElem?_eq_some_iff.mp h4).1
    simp at e3 e4
    exact ⟨rfl, by omega⟩
  have hr := va_runS (p := p) (l := l) (e := e) (R := R) (s := s) (m := m) (args := args) (below := below) (meth := meth) (c := c) (H := H) (locs := locs) (cells := cells) (slots := slots) (As := As) (rest := rest) (g := F0 m pc ls (As.reverse ++ rest)) ⟨hx, hb, hml, hown, hT⟩ (hC.2 H.size) ⟨g_callB hT hM.1 hR, hT _ hM.2⟩
    ⟨b_blind, fun U hU hW => ⟨rfl, by rw [hU], by rw [hU]; exact hPc, va_K.moved hW.alike hK, hDc⟩⟩ rfl hn hls rfl hrm2 hdg hRc
  obtain ⟨hP, hD, hS⟩ := hw
  have ha : A a := hD.2 b j B _ hB he
  have hF : ∀ q, va_A ([[(a, x)]] : List va_W).flatten H.size q → A q := by
    rintro q (⟨k, e9, hk⟩ | h)
    · match k, hk with
      | 0, hk => cases hk; exact ha
      | k + 1, hk => simp at hk
    · exact hA q (Nat.le_trans hS.1 h)
  intro T hT X
  obtain ⟨v, st₀, t, T', L, h0, X', hL, e1, e2, ⟨⟨hv, hp⟩, hz, hk⟩, stp⟩ := hr T hT X
  cases hv
  rw [h0] at hz hk
  subst hset; subst hwb
  have hpos := b_pos_get wb b j B _ hB he
  have h1 : va_P D g_cl (wb.flatten.set (b_pos wb b j) (a, x')) t.heap := by
    intro k q hq
    by_cases hkp : k = b_pos wb b j
    · subst hkp
      rw [List.getElem?_set_self (List.getElem?_eq_some_iff.mp hpos).1] at hq
      cases hq
      exact hp 0 0 _ _ rfl rfl
    · rw [List.getElem?_set_ne (Ne.symm hkp)] at hq
      have h3 := (b_P_flat hP) k q hq
      refine h3.kept (hk q.1 h3.lt ?_)
      rintro (⟨k2, e9, hk2⟩ | h)
      · match k2, hk2 with
        | 0, hk2 =>
          have e8 : q.1 = a := by
            have := Option.some.inj hk2
            exact (congrArg Prod.fst this).symm
          exact hkp ((b_D_flat hD).1 k _ q (a, x) hq hpos e8)
        | k2 + 1, hk2 => simp at hk2
      · exact absurd h3.lt (Nat.not_lt.mpr h)
  have h2 := (b_D_flat hD).set (e := x') hpos
  rw [b_set wb b j B _ hB (b_lt he)] at h1 h2
  obtain ⟨t2, a1, b1⟩ := kk T'.heap (locs ++ L) ⟨by rw [e1]; exact b_P_of h1, b_D_of h2, ⟨Nat.le_trans hS.1 (by rw [e1]; exact hz), fun q h1 h2 => by rw [e1, hk q (Nat.lt_of_lt_of_le h1 hS.1) (fun z => h2 (hF q z))]; exact hS.2.1 q h1 h2, fun q hq => by
      rcases List.mem_append.mp hq with h | h
      · exact hS.2.2 q h
      · exact hF _ (hL q h)⟩⟩ T' rfl X'
  exact ⟨t2, stp t2 a1, b1⟩
end RowsA
