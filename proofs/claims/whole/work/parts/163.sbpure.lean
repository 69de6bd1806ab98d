/-! the StringBuilder's methods -/
theorem j_cap {q m : Nat} (hq : q ≤ 64) (hm : m < q) : 0 < sb_cap q m ∧ sb_cap q m ≤ 130 ∧ sb_cap q m < 2 ^ 31 := by
  unfold sb_cap
  rw [if_neg (by omega)]
  split <;> omega
theorem j_max {q m : Nat} (hq : q ≤ 64) (hm : m < q) : g_max (nI (q - m)) (nI (m + 2)) = nI (sb_cap q m - m) := by
  unfold sb_cap g_max
  rw [if_neg (show ¬ q ≤ m by omega)]
  by_cases h : q - m < m + 2
  · rw [if_pos (nI_lt h (by omega))]
    split <;> exact congrArg nI (by omega)
  · rw [if_neg (nI_nlt (by omega) (by omega))]
    split <;> exact congrArg nI (by omega)
theorem j_maxa {q m : Nat} (hq : q ≤ 64) (hm : m < q) : nI m + nI (sb_cap q m - m) = nI (sb_cap q m) := by
  rw [nI_add]
  congr 1
  have := sb_cap_gem q m
  omega
theorem j_big {a : Nat} (h : a ≤ 130) : ¬ nI a > 2147483639 := nI_nlt (b := a) (a := 2147483639) (by omega) (by decide)
theorem j_nemax {a : Nat} (h : a ≤ 130) : nI a ≠ 2147483647 := fun e => by
  have := (nI_eq (a := a) (b := 2147483647) (by omega) (by decide)).mp e
  omega
theorem j_sub {a b : Nat} (h : b ≤ a) (ha : a < 2 ^ 30) : nI a - nI b = nI (a - b) := by
  apply Int32.toInt_inj.mp
  rw [pk_sub_toInt ha (by omega), nI_toInt (by omega)]
  omega
theorem j_by {q : Nat} (h : q ≤ 130) : q * componentBytes .byte ≤ 536870912 := by
  have : componentBytes .byte = 1 := rfl
  rw [this]
  omega
theorem j_slot {q : Nat} (h : q ≤ 130) : 0 + q ≤ 130 := by omega
theorem j_min {q m : Nat} (h : m < q) (hq : q < 2 ^ 31) : g_min (nI m) (nI q) = nI m := by
  unfold g_min
  rw [if_neg (nI_nlt (by omega) (by omega))]
theorem j_ok {m q : Nat} (h : m < q) (hq : q < 2 ^ 31) : g_cpyOk m q 0 0 (nI m) := by
  unfold g_cpyOk
  rw [nI_clamp (by omega), sb_cl0]
  intro z
  rcases z with z | z | z | z | z
  · exact absurd z (by decide)
  · exact absurd z (by decide)
  · exact nI_pos (by omega) z
  · omega
  · omega
theorem j_cpe {m : Nat} {f h : Nat → Int32} (hm : m < 2 ^ 31) : va_cpy f h 0 0 m = va_cpy f h (0 : Int32).toNatClampNeg (0 : Int32).toNatClampNeg (nI m).toNatClampNeg := by
  rw [nI_clamp hm, sb_cl0]
theorem j_subL {q m : Nat} (hq : q ≤ 64) (hm : m ≤ 130) (h : q ≤ m) : nI q - nI m ≤ 0 := by
  rw [Int32.le_iff_toInt_le, pk_sub_toInt (by omega) (by omega), Int32.toInt_zero]
  omega
theorem j_subG {q m : Nat} (hq : q ≤ 64) (h : m < q) : ¬ nI q - nI m ≤ 0 := by
  rw [Int32.le_iff_toInt_le, pk_sub_toInt (by omega) (by omega), Int32.toInt_zero]
  omega
theorem j_capl {q m : Nat} (h : m < q) : m < sb_cap q m := Nat.lt_of_lt_of_le h (sb_cap_ge q m)
theorem j_n255 {x : Nat} (h : x < 128) : ¬ nI x > 255 := nI_nlt (b := x) (a := 255) (by omega) (by decide)
theorem j_n10 {k : Nat} (h : k < 10) : ¬ -nI k ≤ -10 := fun z => by
  have := (sb_nle (a := k) (b := 10) (by omega) (by decide)).mp z
  omega
theorem j_y10 {k : Nat} (h : 10 ≤ k) (h2 : k < 100) : -nI k ≤ -10 := (sb_nle (a := k) (b := 10) (by omega) (by decide)).mpr h
theorem j_n100 {k : Nat} (h : k < 100) : ¬ -nI k ≤ 10 * (-10) := fun z => by
  have := (sb_nle (a := k) (b := 100) (by omega) (by decide)).mp z
  omega
theorem j_gt100 {k : Nat} (h : k < 100) : -nI k > -100 := (sb_nlt (a := 100) (b := k) (by decide) (by omega)).mpr h
theorem j_ge9 {k : Nat} (h : k < 10) : -nI k ≥ -9 := (sb_nle (a := 9) (b := k) (by decide) (by omega)).mpr (by omega)
theorem j_nge9 {k : Nat} (h : 10 ≤ k) (h2 : k < 100) : ¬ -nI k ≥ -9 := fun z => by
  have := (sb_nle (a := 9) (b := k) (by decide) (by omega)).mp z
  omega
theorem j_dec (p : Nat) : nI (p + 1) + Int32.ofInt (-1) = nI p := (Int32.sub_eq_add_neg (nI (p + 1)) 1).symm.trans (nI_pred p)
section RowsN
variable {p : Program} {l : Launch} {e : Env} {R : Room} {s : State} {m : MethodId} {args : Array Value} {below : List Frame} {meth : Method} {c : Code} {H : Heap} {locs : List Loc} {cells slots : Nat} {Q : State → Prop}
variable {cc : ByteArray} {pc : Nat} {ls : Array Slot} {rest st : List Value}
theorem s_ineg (hx : p.tables.exec = Jvm.exec) (hb : c.code = cc) {x z : Int32} (hdg : decode cc pc = .ok (.ineg, 1)) (hz : -x = z) (k : W p l e R s m args below meth c H locs cells slots Q (F0 m (pc + 1) ls (.int z :: rest))) : W p l e R s m args below meth c H locs cells slots Q (F0 m pc ls (.int x :: rest)) := lv_ineg hx hb hdg (by rw [hz]; exact k)
end RowsN
theorem j_tb (k : Nat) (h : k < 100) : (fun j => Value.int (nI (48 + j % 10))) (nI k).toNatClampNeg = .int (nI (48 + k % 10)) := by
  rw [nI_clamp (by omega)]
theorem j_tc (k : Nat) (h : k < 100) : (fun j => Value.int (nI (48 + j / 10))) (nI k).toNatClampNeg = .int (nI (48 + k / 10)) := by
  rw [nI_clamp (by omega)]
theorem j_up {f : Nat → Int32} {n x : Nat} (hn : n < 2 ^ 31) (hx : x < 128) : upd f n (nI x) = upd f (nI n).toNatClampNeg (vp_nar .byte (nI x)) := by
  rw [nI_clamp hn, (sb_fitN x hx).2.2]
theorem s_allK : ∀ i, i < 7 → (sLen.getD i 0 = (sNat.getD i []).length ∧ (sNat.getD i []).length ≤ 9 ∧ sByt.getD i [] = (sNat.getD i []).map nI ∧ ∀ x ∈ sNat.getD i [], x < 128) := by decide +kernel
theorem s_byt {i : Nat} (hi : i < 7) : sb_Fit (fun j => (sByt.getD i []).getD j 0) ∧ ∀ (j x : Nat), (sNat.getD i [])[j]? = some x → (sByt.getD i []).getD j 0 = nI x ∧ x < 128 := by
  obtain ⟨-, -, h3, h4⟩ := s_allK i hi
  refine ⟨fun j => ?_, fun j x hj => ?_⟩
  · show fits .byte (.int ((sByt.getD i []).getD j 0)) = true
    rw [h3, List.getD_eq_getElem?_getD, List.getElem?_map]
    cases hj : (sNat.getD i [])[j]? with
    | none => decide
    | some x => exact (sb_fitN x (h4 x (List.mem_of_getElem? hj))).1
  · refine ⟨?_, h4 x (List.mem_of_getElem? hj)⟩
    rw [h3, List.getD_eq_getElem?_getD, List.getElem?_map, hj]
    rfl
theorem j_cpok {n m w : Nat} (h : n + w ≤ m) (hm : m ≤ 130) : ¬ (nI n < 0) ∧ ¬ (nI w < 0) ∧ (0 : Int32).toNatClampNeg + (nI w).toNatClampNeg ≤ w ∧ (nI n).toNatClampNeg + (nI w).toNatClampNeg ≤ m := by
  refine ⟨nI_pos (by omega), nI_pos (by omega), ?_, ?_⟩
  · rw [sb_cl0, nI_clamp (by omega)]; omega
  · rw [nI_clamp (by omega), nI_clamp (by omega)]; exact h
theorem j_and {x : Nat} (h : x < 128) : nI x &&& 255 = nI x ∧ ((nI x).toUInt32 % 65536).toInt32 = nI x ∧ narrow .char (.int (nI x)) = .int (nI x) := by
  have : ∀ x, x < 128 → nI x &&& 255 = nI x ∧ ((nI x).toUInt32 % 65536).toInt32 = nI x ∧ narrow .char (.int (nI x)) = .int (nI x) := by decide +kernel
  exact this x h
theorem j_minN {n m : Nat} (h : n ≤ m) (hm : m < 2 ^ 31) : g_min (nI n) (nI m) = nI n := by
  unfold g_min
  rw [if_neg (nI_nlt (by omega) (by omega))]
theorem numN_len (k : Nat) (h : k < 100) : (numN k).length = if k < 10 then 1 else 2 := by
  unfold numN; split <;> rfl
theorem j_num1 {t : List Nat} {m k : Nat} {f : Nat → Int32} (h : sbT t m f) (hl : t.length + 1 ≤ m) (hk : k < 10) : sbT (t ++ numN k) m (upd f t.length (nI (48 + k % 10))) := by
  unfold numN
  rw [if_pos hk]
  have := sbT_put h (x := 48 + k % 10) hl (by omega)
  rw [show 48 + k % 10 = 48 + k by omega] at this ⊢
  exact this
theorem j_num2 {t : List Nat} {m k : Nat} {f : Nat → Int32} (h : sbT t m f) (hl : t.length + 1 + 1 ≤ m) (hk : 10 ≤ k) (hk2 : k < 100) : sbT (t ++ numN k) m (upd (upd f (t.length + 1) (nI (48 + k % 10))) t.length (nI (48 + k / 10))) := by
  unfold numN
  rw [if_neg (by omega)]
  have h1 := sbT_put h (x := 48 + k / 10) (by omega) (by omega)
  have h2 := sbT_put h1 (x := 48 + k % 10) (by simp; omega) (by omega)
  have e : upd (upd f t.length (nI (48 + k / 10))) (t ++ [48 + k / 10]).length (nI (48 + k % 10)) = upd (upd f (t.length + 1) (nI (48 + k % 10))) t.length (nI (48 + k / 10)) := by
    funext j
    simp only [List.length_append, List.length_cons, List.length_nil, upd]
    by_cases e1 : j = t.length
    · subst e1; simp
    · by_cases e2 : j = t.length + 1 <;> simp [e1, e2]
  rw [e, List.append_assoc] at h2
  exact h2
theorem j_nln1 {t : List Nat} {k : Nat} {o v m : Nat} {ml : Int32} {g : Nat → ClassId} {f : Nat → Int32} (hk : k < 10) : ([(o, .inr (0, [.ref v, .int 0, .int ml, .int (nI (t.length + 1))])), (v, .inl (g 4, m, .inl f))] : va_W) = [(o, .inr (0, [.ref v, .int 0, .int ml, .int (nI (t ++ numN k).length)])), (v, .inl (g 4, m, .inl f))] := by
  rw [List.length_append, numN_len k (by omega), if_pos hk]
theorem j_nln2 {t : List Nat} {k : Nat} {o v m : Nat} {ml : Int32} {g : Nat → ClassId} {f : Nat → Int32} (hk : 10 ≤ k) (hk2 : k < 100) : ([(o, .inr (0, [.ref v, .int 0, .int ml, .int (nI (t.length + 1 + 1))])), (v, .inl (g 4, m, .inl f))] : va_W) = [(o, .inr (0, [.ref v, .int 0, .int ml, .int (nI (t ++ numN k).length)])), (v, .inl (g 4, m, .inl f))] := by
  rw [List.length_append, numN_len k hk2, if_neg (by omega)]
theorem j_cpyN {n m w : Nat} (h : n + w ≤ m) (hm : m ≤ 130) {f k : Nat → Int32} : va_cpy k f (0 : Int32).toNatClampNeg (nI n).toNatClampNeg (nI w).toNatClampNeg = va_cpy k f 0 n w := by
  rw [sb_cl0, nI_clamp (by omega), nI_clamp (by omega)]
theorem j_str {i : Nat} (hi : i < 7) {t : List Nat} {m : Nat} {f : Nat → Int32} (h : sbT t m f) (hl : t.length + sLen.getD i 0 ≤ m) : sbT (t ++ sNat.getD i []) m (va_cpy (fun j => (sByt.getD i []).getD j 0) f 0 t.length (sLen.getD i 0)) := by
  have e := (s_allK i hi).1
  rw [e] at hl ⊢
  exact sbT_cpy h hl (s_byt hi).1 (s_byt hi).2
theorem j_jm {t : List Nat} {m j x : Nat} {f : Nat → Int32} (h : sbT t m f) (hj : t[j]? = some x) : j < m ∧ m < 2 ^ 31 ∧ f (nI j).toNatClampNeg = nI x := by
  have h1 := (List.getElem?_eq_some_iff.mp hj).1
  have h2 := h.1
  have h3 := h.2.1
  refine ⟨by omega, by omega, ?_⟩
  rw [nI_clamp (by omega)]
  exact (h.2.2.2 j x hj).1
