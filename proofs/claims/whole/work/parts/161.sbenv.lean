/-! what the StringBuilder's methods ask of the statics; texts -/
def sLen : List Nat := [6, 9, 6, 4, 6, 8, 9]
def sByt : List (List Int32) := [[32, 98, 108, 97, 110, 107], [32, 117, 110, 112, 108, 97, 99, 101, 100], [32, 112, 97, 103, 101, 32], [32, 97, 116, 32], [32, 115, 105, 122, 101, 32], [32, 114, 101, 99, 111, 114, 100, 32], [32, 99, 111, 112, 121, 32, 111, 102, 32]]
def sNat : List (List Nat) := [[32, 98, 108, 97, 110, 107], [32, 117, 110, 112, 108, 97, 99, 101, 100], [32, 112, 97, 103, 101, 32], [32, 97, 116, 32], [32, 115, 105, 122, 101, 32], [32, 114, 101, 99, 111, 114, 100, 32], [32, 99, 111, 112, 121, 32, 111, 102, 32]]
def sKey : List Nat := [343, 348, 405, 410, 418, 420, 353]
def sTx : List String := [" blank", " unplaced", " page ", " at ", " size ", " record ", " copy of "]
/-- StringBuilder's private methods, inherited -/
def sPrv : List MethodName := [yJ5_ensureCapacityInternal_d00df, yJ5_newCapacity_0f7a4, yJ5_putStringAt_47b60, yJ5_inflateIfNeededFor_a7421]
def e_St (t1 t2 : Nat) (adK adV : Nat → Nat) : (Nat → Prop) → State → Heap → Prop := fun A U H =>
  va_Z "java/lang/String" "COMPACT_STRINGS" "Z" (.int 1) A U H ∧
  (va_Z "java/lang/Integer" "DigitOnes" "[B" (.ref t1) A U H ∧ va_T .byte t1 100 (fun j => .int (nI (48 + j % 10))) A U H) ∧
  (va_Z "java/lang/Integer" "DigitTens" "[B" (.ref t2) A U H ∧ va_T .byte t2 100 (fun j => .int (nI (48 + j / 10))) A U H) ∧
  va_Zq "jdk/internal/util/Preconditions" "SIOOBE_FORMATTER" "Ljava/util/function/BiFunction;" A U H ∧
  vk_S 7 sLen sByt adK adV A U H ∧ (∀ i : Nat, i < 7 → vk_R "SpriteAtlas" (sKey.getD i 0) (sTx.getD i "") (adK i) U) ∧ ∀ y ∈ sPrv, (Cond.selects RJ4 y y).before #[] U = true
theorem sPrv_ok : ∀ y ∈ sPrv, ((Cond.selects RJ4 y y).onTables && (Cond.selects RJ4 y y).keeps) = true := by decide +kernel
theorem e_sel {t1 t2 : Nat} {adK adV : Nat → Nat} {A : Nat → Prop} {s : State} {H : Heap} {args : Array Value} (h : e_St t1 t2 adK adV A s H) (i : Nat) {y : MethodName} (hy : sPrv[i]? = some y) : (Cond.selects RJ4 y y).before args s = true := by
  have hm := List.mem_of_getElem? hy
  exact word_at (State.WarmedH.refl s) (Or.inl (sPrv_ok y hm)) (h.2.2.2.2.2.2 y hm)
theorem e_ok {t1 t2 : Nat} {adK adV : Nat → Nat} : s_ok (e_St t1 t2 adK adV) := by
  refine ⟨?_, ?_, ?_, ?_⟩
  · rintro A U U' H hW ⟨h1, ⟨h2, h3⟩, ⟨h4, h5⟩, h6, h7, h8, h9⟩
    exact ⟨h1.moved hW.alike, ⟨h2.moved hW.alike, h3.moved hW.alike⟩, ⟨h4.moved hW.alike, h5.moved hW.alike⟩, h6.moved hW.alike, h7.moved hW.alike, fun i hi => (h8 i hi).warm hW, fun y hy => word_at hW (Or.inl (sPrv_ok y hy)) (h9 y hy)⟩
  · rintro A U H H1 hq ⟨h1, ⟨h2, h3⟩, ⟨h4, h5⟩, h6, h7, h8, h9⟩
    exact ⟨h1.kept hq, ⟨h2.kept hq, h3.kept hq⟩, ⟨h4.kept hq, h5.kept hq⟩, h6.kept hq, h7.kept hq, h8, h9⟩
  · rintro A B U H hq ⟨h1, ⟨h2, h3⟩, ⟨h4, h5⟩, h6, h7, h8, h9⟩
    exact ⟨h1.narrow hq, ⟨h2.narrow hq, h3.narrow hq⟩, ⟨h4.narrow hq, h5.narrow hq⟩, h6.narrow hq, h7.narrow hq, h8, h9⟩
  · rintro A U H g' mk a ⟨h1, ⟨h2, h3⟩, ⟨h4, h5⟩, h6, h7, h8, h9⟩
    have hv : U.vm.Alike (U.calling g' mk a).vm := Vm.Alike.refl U.vm
    exact ⟨h1.moved hv, ⟨h2.moved hv, h3.moved hv⟩, ⟨h4.moved hv, h5.moved hv⟩, h6.moved hv, h7.moved hv, fun i hi => (h8 i hi).same rfl, fun y hy => word_at (s := U) (U := U.calling g' mk a) (State.WarmedH.refl U) (Or.inl (sPrv_ok y hy)) (h9 y hy)⟩
theorem s_mono {l : Launch} {y : MethodName} {b : ByteArray} {mL : Nat} {rt : Option FieldType} {fr mc ms lo : Nat} {E : (Nat → Prop) → State → Heap → Prop} {D : va_G} {g : Nat → ClassId} {As : List Value} {ws : va_W} {post post' : Option Value → va_W → Prop} (h : s_Ct l y b mL rt fr mc ms lo E D g As ws post) (hp : ∀ rv w1, post rv w1 → post' rv w1) : s_Ct l y b mL rt fr mc ms lo E D g As ws post' := by
  intro sz p e h1 h2 h3 s m args below hf hs hP hk
  obtain ⟨n, o, q1, q2, q3, ⟨⟨rv, w1, e1, e2, e3⟩, e4⟩, q5⟩ := h sz p e h1 h2 h3 s m args below hf hs hP hk
  exact ⟨n, o, q1, q2, q3, ⟨⟨rv, w1, e1, hp rv w1 e2, e3⟩, e4⟩, q5⟩
theorem s_drop {D : va_G} {A : Nat → Prop} {H0 H : Heap} {locs : List Loc} {ws wc : va_W} (hw : g_Wd D A H0 H locs ws) (isC : List Nat) (hC1 : isC.map (fun i => ws[i]?) = wc.map some) (hnd : va_nd isC = true) : g_Wd D A H0 H locs wc := by
  refine ⟨hw.1.sub (ws' := wc) isC ?_, hw.2.1.sub isC hnd hC1, hw.2.2⟩
  have := congrArg (List.filterMap id) hC1
  rw [List.filterMap_map, List.filterMap_map] at this
  simpa [Function.comp_def] using this
section RowsT
variable {p : Program} {l : Launch} {e : Env} {R : Room} {s : State} {m : MethodId} {args : Array Value} {below : List Frame} {meth : Method} {c : Code} {H : Heap} {locs : List Loc} {cells slots : Nat} {Q : State → Prop}
variable {cc : ByteArray} {pc : Nat} {ls : Array Slot} {rest st : List Value}
theorem s_ishr0 (hx : p.tables.exec = Jvm.exec) (hb : c.code = cc) {x : Int32} (hdg : decode cc pc = .ok (.ishr, 1)) (k : W p l e R s m args below meth c H locs cells slots Q (F0 m (pc + 1) ls (.int x :: rest))) : W p l e R s m args below meth c H locs cells slots Q (F0 m pc ls (.int 0 :: .int x :: rest)) := lv_ishr hx hb hdg (by rw [sb_shr0]; exact k)
theorem s_ishl0 (hx : p.tables.exec = Jvm.exec) (hb : c.code = cc) {x : Int32} (hdg : decode cc pc = .ok (.ishl, 1)) (k : W p l e R s m args below meth c H locs cells slots Q (F0 m (pc + 1) ls (.int x :: rest))) : W p l e R s m args below meth c H locs cells slots Q (F0 m pc ls (.int 0 :: .int x :: rest)) := lv_ishl hx hb hdg (by rw [sb_shl0]; exact k)
theorem s_iadd (hx : p.tables.exec = Jvm.exec) (hb : c.code = cc) {x y z : Int32} (hdg : decode cc pc = .ok (.iadd, 1)) (hz : x + y = z) (k : W p l e R s m args below meth c H locs cells slots Q (F0 m (pc + 1) ls (.int z :: rest))) : W p l e R s m args below meth c H locs cells slots Q (F0 m pc ls (.int y :: .int x :: rest)) := lv_iadd hx hb hdg (by rw [hz]; exact k)
theorem s_isub (hx : p.tables.exec = Jvm.exec) (hb : c.code = cc) {x y z : Int32} (hdg : decode cc pc = .ok (.isub, 1)) (hz : x - y = z) (k : W p l e R s m args below meth c H locs cells slots Q (F0 m (pc + 1) ls (.int z :: rest))) : W p l e R s m args below meth c H locs cells slots Q (F0 m pc ls (.int y :: .int x :: rest)) := lv_isub hx hb hdg (by rw [hz]; exact k)
end RowsT
/-- t lies in the first bytes of f, of room m -/
def sbT (t : List Nat) (m : Nat) (f : Nat → Int32) : Prop := t.length ≤ m ∧ m ≤ 130 ∧ sb_Fit f ∧ ∀ (j x : Nat), t[j]? = some x → f j = nI x ∧ x < 128
theorem sb_fitN (x : Nat) (h : x < 128) : fits .byte (.int (nI x)) = true ∧ (nI x).toInt8.toInt32 = nI x ∧ vp_nar .byte (nI x) = nI x := by
  have : ∀ x, x < 128 → fits .byte (.int (nI x)) = true ∧ (nI x).toInt8.toInt32 = nI x ∧ vp_nar .byte (nI x) = nI x := by decide +kernel
  exact this x h
theorem sbT_keep {t : List Nat} {m m' : Nat} {f f' : Nat → Int32} (h : sbT t m f) (h1 : m ≤ m' ∧ m' ≤ 130) (h2 : sb_Fit f') (h3 : ∀ j, j < m → f' j = f j) : sbT t m' f' :=
  ⟨Nat.le_trans h.1 h1.1, h1.2, h2, fun j x hj => by rw [h3 j (Nat.lt_of_lt_of_le (List.getElem?_eq_some_iff.mp hj).1 h.1)]; exact h.2.2.2 j x hj⟩
theorem sbT_put {t : List Nat} {m x : Nat} {f : Nat → Int32} (h : sbT t m f) (hl : t.length < m) (hx : x < 128) : sbT (t ++ [x]) m (upd f t.length (nI x)) := by
  refine ⟨by simp; omega, h.2.1, sb_fitU h.2.2.1 (sb_fitN x hx).1, fun j y hj => ?_⟩
  by_cases e : j = t.length
  · subst e
    rw [List.getElem?_append_right (Nat.le_refl _), Nat.sub_self] at hj
    cases hj
    exact ⟨pk_us, hx⟩
  · rw [pk_un e]
    have hlt : j < t.length := by
      have := (List.getElem?_eq_some_iff.mp hj).1
      simp at this
      omega
    rw [List.getElem?_append_left hlt] at hj
    exact h.2.2.2 j y hj
theorem sbT_cpy {t u : List Nat} {m : Nat} {f k : Nat → Int32} (h : sbT t m f) (hl : t.length + u.length ≤ m) (hk : sb_Fit k) (hu : ∀ (j x : Nat), u[j]? = some x → k j = nI x ∧ x < 128) : sbT (t ++ u) m (va_cpy k f 0 t.length u.length) := by
  refine ⟨by simp; omega, h.2.1, sb_fitC hk h.2.2.1, fun j y hj => ?_⟩
  have hb := (List.getElem?_eq_some_iff.mp hj).1
  simp at hb
  by_cases e : j < t.length
  · rw [pk_cpy_out (by omega)]
    rw [List.getElem?_append_left e] at hj
    exact h.2.2.2 j y hj
  · rw [pk_cpy_in (by omega) (by omega), Nat.zero_add]
    rw [List.getElem?_append_right (by omega)] at hj
    exact hu _ y hj
/-- a StringBuilder and its bytes -/
def wSB (g : Nat → ClassId) (o v : Nat) (ml : Int32) (n m : Nat) (f : Nat → Int32) : va_W := [(o, .inr (0, [.ref v, .int 0, .int ml, .int (nI n)])), (v, .inl (g 4, m, .inl f))]
def numN (k : Nat) : List Nat := if k < 10 then [48 + k] else [48 + k / 10, 48 + k % 10]
