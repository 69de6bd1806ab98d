/-! the text: its scanner as a state (column, row, width of the rows above, start, images) -/
def tStep (c k : Int) (s : Int × Int × Int × Int × Int) : Option (Int × Int × Int × Int × Int) :=
  if 48 ≤ c ∧ c ≤ 57 then (if s.1 < (if s.2.1 = 0 then 8 else s.2.2.1) then some (s.1 + 1, s.2.1, s.2.2.1, s.2.2.2.1, s.2.2.2.2) else none)
  else if c = 47 ∧ 0 < s.1 ∧ (s.2.1 = 0 ∨ s.1 = s.2.2.1) ∧ s.2.1 < 7 then some (0, s.2.1 + 1, s.1, s.2.2.2.1, s.2.2.2.2)
  else if c = 59 ∧ 0 < s.1 ∧ (s.2.1 = 0 ∨ s.1 = s.2.2.1) then some (0, 0, 0, k + 1, s.2.2.2.2 + 1)
  else none
def tS (T : Int → Int) : Nat → Option (Int × Int × Int × Int × Int)
  | 0 => some (0, 0, 0, 0, 0)
  | k + 1 => (tS T k).bind (tStep (T k) k)
def tF (T : Int → Int) : Nat → Int
  | 0 => -1
  | k + 1 => if 0 ≤ tF T k then tF T k else if tS T (k + 1) = none then k else -1
/-- the fault position, -1 for none -/
def tFin (T : Int → Int) (len : Nat) : Int := if 0 ≤ tF T len then tF T len else (tS T len).elim (-1) (fun s => if s.1 = 0 ∧ s.2.1 = 0 then -1 else (len : Int))
def tOk (s : Int × Int × Int × Int × Int) : Prop := 0 ≤ s.1 ∧ s.1 ≤ 8 ∧ 0 ≤ s.2.1 ∧ s.2.1 ≤ 7 ∧ (s.2.1 = 0 ∨ (1 ≤ s.2.2.1 ∧ s.2.2.1 ≤ 8 ∧ s.1 ≤ s.2.2.1)) ∧ 0 ≤ s.2.2.2.2
theorem tStep_some {c k x y w st m : Int} {s' : Int × Int × Int × Int × Int} (e : tStep c k (x, y, w, st, m) = some s') :
    (48 ≤ c ∧ c ≤ 57 ∧ ((y = 0 ∧ x < 8) ∨ (y ≠ 0 ∧ x < w)) ∧ s' = (x + 1, y, w, st, m)) ∨ (c = 47 ∧ 0 < x ∧ (y = 0 ∨ x = w) ∧ y < 7 ∧ s' = (0, y + 1, x, st, m)) ∨ (c = 59 ∧ 0 < x ∧ (y = 0 ∨ x = w) ∧ s' = (0, 0, 0, k + 1, m + 1)) := by
  unfold tStep at e
  dsimp only at e
  by_cases h1 : 48 ≤ c ∧ c ≤ 57
  · rw [if_pos h1] at e
    by_cases h2 : x < (if y = 0 then 8 else w)
    · rw [if_pos h2] at e
      refine Or.inl ⟨h1.1, h1.2, ?_, (Option.some.inj e).symm⟩
      split at h2 <;> omega
    · rw [if_neg h2] at e
      cases e
  · rw [if_neg h1] at e
    by_cases h2 : c = 47 ∧ 0 < x ∧ (y = 0 ∨ x = w) ∧ y < 7
    · rw [if_pos h2] at e
      exact Or.inr (Or.inl ⟨h2.1, h2.2.1, h2.2.2.1, h2.2.2.2, (Option.some.inj e).symm⟩)
    · rw [if_neg h2] at e
      by_cases h3 : c = 59 ∧ 0 < x ∧ (y = 0 ∨ x = w)
      · rw [if_pos h3] at e
        exact Or.inr (Or.inr ⟨h3.1, h3.2.1, h3.2.2, (Option.some.inj e).symm⟩)
      · rw [if_neg h3] at e
        cases e
theorem tStep_ok {c k : Int} {s s' : Int × Int × Int × Int × Int} (h : tOk s) (e : tStep c k s = some s') : tOk s' := by
  obtain ⟨x, y, w, st, m⟩ := s
  unfold tOk at h ⊢
  rcases tStep_some e with ⟨h1, h2, h3, rfl⟩ | ⟨h1, h2, h3, h4, rfl⟩ | ⟨h1, h2, h3, rfl⟩ <;> dsimp only at h ⊢ <;> omega
theorem tS_succ {T : Int → Int} {k : Nat} {s' : Int × Int × Int × Int × Int} (h : tS T (k + 1) = some s') : ∃ s, tS T k = some s ∧ tStep (T k) k s = some s' := by
  have h2 : (tS T k).bind (tStep (T k) k) = some s' := h
  cases e : tS T k with
  | none => rw [e] at h2; cases h2
  | some s => rw [e] at h2; exact ⟨s, rfl, h2⟩
theorem tS_ok {T : Int → Int} : ∀ {k : Nat} {s : Int × Int × Int × Int × Int}, tS T k = some s → tOk s
  | 0, s, h => by
    cases h
    unfold tOk
    dsimp only
    omega
  | k + 1, s, h => by
    obtain ⟨s0, h0, h1⟩ := tS_succ h
    exact tStep_ok (tS_ok h0) h1
theorem tS_m {T : Int → Int} : ∀ {k : Nat} {x y w st m : Int}, tS T k = some (x, y, w, st, m) → m ≤ k
  | 0, x, y, w, st, m, h => by
    cases h
    omega
  | k + 1, x, y, w, st, m, h => by
    obtain ⟨⟨x0, y0, w0, st0, m0⟩, h0, h1⟩ := tS_succ h
    have h2 := tS_m h0
    rcases tStep_some h1 with ⟨-, -, -, e⟩ | ⟨-, -, -, -, e⟩ | ⟨-, -, -, e⟩ <;> cases e <;> omega
theorem tF_none {T : Int → Int} : ∀ {k : Nat} {s : Int × Int × Int × Int × Int}, tS T k = some s → tF T k = -1
  | 0, s, h => rfl
  | k + 1, s, h => by
    obtain ⟨s0, h0, h1⟩ := tS_succ h
    have h2 := tF_none h0
    show (if 0 ≤ tF T k then tF T k else if tS T (k + 1) = none then (k : Int) else -1) = -1
    rw [if_neg (by omega), if_neg (by rw [h]; exact fun z => by cases z)]
theorem tF_stop {T : Int → Int} {k : Nat} {s : Int × Int × Int × Int × Int} (h : tS T k = some s) (e : tStep (T k) k s = none) : ∀ j : Nat, k < j → tF T j = k := by
  intro j
  induction j with
  | zero => intro h; omega
  | succ j ih =>
    intro hj
    show (if 0 ≤ tF T j then tF T j else if tS T (j + 1) = none then (j : Int) else -1) = k
    by_cases h1 : k < j
    · rw [ih h1, if_pos (by omega)]
    · obtain rfl : j = k := by omega
      rw [tF_none h, if_neg (by omega), if_pos]
      show (tS T j).bind (tStep (T j) j) = none
      rw [h]
      exact e
theorem tFin_stop {T : Int → Int} {len k : Nat} {s : Int × Int × Int × Int × Int} (h : tS T k = some s) (e : tStep (T k) k s = none) (hk : k < len) : tFin T len = k := by
  unfold tFin
  rw [tF_stop h e len hk, if_pos (by omega)]
theorem tFin_end {T : Int → Int} {len : Nat} {x y w st m : Int} (h : tS T len = some (x, y, w, st, m)) : tFin T len = if x = 0 ∧ y = 0 then -1 else (len : Int) := by
  unfold tFin
  rw [tF_none h, if_neg (by omega), h]
  rfl
def tTx (T : Int → Int) (len : Nat) : Prop := len ≤ 160 ∧ ∀ j : Int, 0 ≤ j → j < len → 32 ≤ T j ∧ T j ≤ 126
theorem isDigit_iI {c : Int} (h1 : 0 ≤ c) (h2 : c < 1000) : f_X9_isDigit (iI c) = iI (if 48 ≤ c ∧ c ≤ 57 then 1 else 0) := by
  unfold f_X9_isDigit
  simp (disch := omega) only [↓bd_e, ↓jn_e, ↓opt_bind, ↓reduceIte, iLeT, iLeF, iLtT, iLtF, iEqT, iEqF, il_0, il_1, il_2, il_3, il_4, il_5, il_6, il_7, il_8, il_9, il_10, il_11, il_12, il_13, il_14, il_15, il_16, il_18, il_20, il_24, il_32, il_35, il_40, il_44, il_47, il_48, il_56, il_57, il_58, il_59, il_63, il_64, il_72, il_100, il_120, il_126, il_127, il_160, il_192, il_255, il_349, il_1748, il_6992, iI_add, iI_sub, iI_mul, iI_neg, iI_le, iI_lt, iI_eq, rd_lA, wr_lA, rd_lR, wr_lR, ite_iI, max_iI, min_iI, rem_iI, div_iI, ite_true, ite_false, if_true, if_false, ite_self, and_self, and_true, true_and, and_false, false_and, or_self, or_true, true_or, or_false, false_or, not_true_eq_false, not_false_eq_true]
theorem in_iI {a b c : Int} (h1 : -2147483648 ≤ a) (h2 : a < 2147483648) (h3 : -2147483648 ≤ b) (h4 : b < 2147483648) (h5 : -2147483648 ≤ c) (h6 : c < 2147483648) : f_X11_in (iI a) (iI b) (iI c) = iI (if b ≤ a ∧ a ≤ c then 1 else 0) := by
  unfold f_X11_in
  simp (disch := omega) only [↓bd_e, ↓jn_e, ↓opt_bind, ↓reduceIte, iLeT, iLeF, iLtT, iLtF, iEqT, iEqF, il_0, il_1, il_2, il_3, il_4, il_5, il_6, il_7, il_8, il_9, il_10, il_11, il_12, il_13, il_14, il_15, il_16, il_18, il_20, il_24, il_32, il_35, il_40, il_44, il_47, il_48, il_56, il_57, il_58, il_59, il_63, il_64, il_72, il_100, il_120, il_126, il_127, il_160, il_192, il_255, il_349, il_1748, il_6992, iI_add, iI_sub, iI_mul, iI_neg, iI_le, iI_lt, iI_eq, rd_lA, wr_lA, rd_lR, wr_lR, ite_iI, max_iI, min_iI, rem_iI, div_iI, ite_true, ite_false, if_true, if_false, ite_self, and_self, and_true, true_and, and_false, false_and, or_self, or_true, true_or, or_false, false_or, not_true_eq_false, not_false_eq_true]
theorem within_iI {a b c : Int} (h1 : -2147483648 ≤ a) (h2 : a < 2147483648) (h3 : -2147483648 ≤ b) (h4 : b < 2147483648) (h5 : -2147483648 ≤ c) (h6 : c < 2147483648) : f_X10_isWithin (iI a) (iI b) (iI c) = iI (if b ≤ a ∧ a ≤ c then 1 else 0) := in_iI h1 h2 h3 h4 h5 h6
theorem c_fault_L {T : Int → Int} {len : Nat} (ht : tTx T len) (P : Option Int32 → Prop) (K : Int32 → Int32 → Option Int32)
    (hK : ∀ x y w st m, tS T len = some (x, y, w, st, m) → P (K (iI y) (iI x))) (hs : ∀ k : Nat, k < len → tFin T len = k → P (some (iI k)))
    (n : Nat) (k : Int) (s : Int × Int × Int × Int × Int) (hk : k ≤ len) (hn : (len : Int) - k < n) (h0 : 0 ≤ k) (h : tS T k.toNat = some s) :
    P (f_X9_findFault_L10 (iI len) (lA T) K n (iI s.2.1) (iI s.1) (iI (if s.2.1 = 0 then 8 else s.2.2.1)) (iI k)) := by
  obtain ⟨hl, hc⟩ := ht
  refine lp (fun n k s => f_X9_findFault_L10 (iI len) (lA T) K n (iI s.2.1) (iI s.1) (iI (if s.2.1 = 0 then 8 else s.2.2.1)) (iI k)) P len (fun k s => 0 ≤ k ∧ tS T k.toNat = some s) ?_ ?_ n k s hk hn ⟨h0, h⟩
  · rintro n ⟨x, y, w, st, m⟩ ⟨h0, h⟩
    rw [Int.toNat_natCast] at h
    dsimp only
    unfold f_X9_findFault_L10
    simp (disch := omega) only [↓bd_e, ↓jn_e, ↓opt_bind, ↓reduceIte, iLeT, iLeF, iLtT, iLtF, iEqT, iEqF, il_0, il_1, il_2, il_3, il_4, il_5, il_6, il_7, il_8, il_9, il_10, il_11, il_12, il_13, il_14, il_15, il_16, il_18, il_20, il_24, il_32, il_35, il_40, il_44, il_47, il_48, il_56, il_57, il_58, il_59, il_63, il_64, il_72, il_100, il_120, il_126, il_127, il_160, il_192, il_255, il_349, il_1748, il_6992, iI_add, iI_sub, iI_mul, iI_neg, iI_le, iI_lt, iI_eq, rd_lA, wr_lA, rd_lR, wr_lR, ite_iI, max_iI, min_iI, rem_iI, div_iI, ite_true, ite_false, if_true, if_false, ite_self, and_self, and_true, true_and, and_false, false_and, or_self, or_true, true_or, or_false, false_or, not_true_eq_false, not_false_eq_true]
    exact hK x y w st m h
  · rintro n k ⟨x, y, w, st, m⟩ hk ⟨h0, h⟩ ih
    have hcc := hc k h0 hk
    obtain ⟨o1, o2, o3, o4, o5, o6⟩ := tS_ok h
    dsimp only at o1 o2 o3 o4 o5 o6 ih ⊢
    have hst : tS T (k + 1).toNat = tStep (T k) k (x, y, w, st, m) := by
      rw [show (k + 1).toNat = k.toNat + 1 by omega]
      show (tS T k.toNat).bind (tStep (T (k.toNat : Int)) (k.toNat : Int)) = _
      rw [h, Int.toNat_of_nonneg h0]
      rfl
    have hbad : tStep (T k) k (x, y, w, st, m) = none → P (some (iI k)) := by
      intro e
      have := hs k.toNat (by omega) (tFin_stop h (by rw [Int.toNat_of_nonneg h0]; exact e) (by omega))
      rwa [Int.toNat_of_nonneg h0] at this
    generalize hw : (if y = 0 then 8 else w) = w8 at *
    have hw8 : 1 ≤ w8 ∧ w8 ≤ 8 ∧ x ≤ w8 := by
      rw [← hw]
      split <;> omega
    unfold f_X9_findFault_L10
    have hgo : ∀ x' y' w' st' m', tStep (T k) k (x, y, w, st, m) = some (x', y', w', st', m') → P (f_X9_findFault_L10 (iI len) (lA T) K n (iI y') (iI x') (iI (if y' = 0 then 8 else w')) (iI (k + 1))) := fun x' y' w' st' m' e => ih (x', y', w', st', m') ⟨by omega, by rw [hst]; exact e⟩
    unfold tStep at hbad hgo
    dsimp only at hbad hgo
    rw [hw] at hbad hgo
    have hx8 : y = 0 → w8 = 8 := fun z => by rw [← hw, if_pos z]
    have hxw : y ≠ 0 → w8 = w := fun z => by rw [← hw, if_neg z]
    by_cases hd : 48 ≤ T k ∧ T k ≤ 57
    · rw [if_pos hd] at hbad hgo
      by_cases hx : x < w8
      · rw [if_pos hx] at hgo
        have g := hgo _ _ _ _ _ rfl
        rw [hw] at g
        simp (disch := omega) only [↓bd_e, ↓jn_e, ↓opt_bind, ↓reduceIte, iLeT, iLeF, iLtT, iLtF, iEqT, iEqF, il_0, il_1, il_2, il_3, il_4, il_5, il_6, il_7, il_8, il_9, il_10, il_11, il_12, il_13, il_14, il_15, il_16, il_18, il_20, il_24, il_32, il_35, il_40, il_44, il_47, il_48, il_56, il_57, il_58, il_59, il_63, il_64, il_72, il_100, il_120, il_126, il_127, il_160, il_192, il_255, il_349, il_1748, il_6992, iI_add, iI_sub, iI_mul, iI_neg, iI_le, iI_lt, iI_eq, rd_lA, wr_lA, rd_lR, wr_lR, ite_iI, max_iI, min_iI, rem_iI, div_iI, ite_true, ite_false, if_true, if_false, ite_self, and_self, and_true, true_and, and_false, false_and, or_self, or_true, true_or, or_false, false_or, not_true_eq_false, not_false_eq_true, isDigit_iI]
        exact g
      · rw [if_neg hx] at hbad
        simp (disch := omega) only [↓bd_e, ↓jn_e, ↓opt_bind, ↓reduceIte, iLeT, iLeF, iLtT, iLtF, iEqT, iEqF, il_0, il_1, il_2, il_3, il_4, il_5, il_6, il_7, il_8, il_9, il_10, il_11, il_12, il_13, il_14, il_15, il_16, il_18, il_20, il_24, il_32, il_35, il_40, il_44, il_47, il_48, il_56, il_57, il_58, il_59, il_63, il_64, il_72, il_100, il_120, il_126, il_127, il_160, il_192, il_255, il_349, il_1748, il_6992, iI_add, iI_sub, iI_mul, iI_neg, iI_le, iI_lt, iI_eq, rd_lA, wr_lA, rd_lR, wr_lR, ite_iI, max_iI, min_iI, rem_iI, div_iI, ite_true, ite_false, if_true, if_false, ite_self, and_self, and_true, true_and, and_false, false_and, or_self, or_true, true_or, or_false, false_or, not_true_eq_false, not_false_eq_true, isDigit_iI]
        exact hbad rfl
    · rw [if_neg hd] at hbad hgo
      by_cases h7 : T k = 47 ∧ 0 < x ∧ (y = 0 ∨ x = w) ∧ y < 7
      · rw [if_pos h7] at hgo
        have g := hgo _ _ _ _ _ rfl
        rw [if_neg (by omega)] at g
        simp (disch := omega) only [↓bd_e, ↓jn_e, ↓opt_bind, ↓reduceIte, iLeT, iLeF, iLtT, iLtF, iEqT, iEqF, il_0, il_1, il_2, il_3, il_4, il_5, il_6, il_7, il_8, il_9, il_10, il_11, il_12, il_13, il_14, il_15, il_16, il_18, il_20, il_24, il_32, il_35, il_40, il_44, il_47, il_48, il_56, il_57, il_58, il_59, il_63, il_64, il_72, il_100, il_120, il_126, il_127, il_160, il_192, il_255, il_349, il_1748, il_6992, iI_add, iI_sub, iI_mul, iI_neg, iI_le, iI_lt, iI_eq, rd_lA, wr_lA, rd_lR, wr_lR, ite_iI, max_iI, min_iI, rem_iI, div_iI, ite_true, ite_false, if_true, if_false, ite_self, and_self, and_true, true_and, and_false, false_and, or_self, or_true, true_or, or_false, false_or, not_true_eq_false, not_false_eq_true, isDigit_iI]
        by_cases hy : y = 0
        · exact g
        · exact g
      · rw [if_neg h7] at hbad hgo
        by_cases h9 : T k = 59 ∧ 0 < x ∧ (y = 0 ∨ x = w)
        · rw [if_pos h9] at hgo
          have g := hgo _ _ _ _ _ rfl
          rw [if_pos rfl] at g
          by_cases hy : y = 0
          · simp (disch := omega) only [↓bd_e, ↓jn_e, ↓opt_bind, ↓reduceIte, iLeT, iLeF, iLtT, iLtF, iEqT, iEqF, il_0, il_1, il_2, il_3, il_4, il_5, il_6, il_7, il_8, il_9, il_10, il_11, il_12, il_13, il_14, il_15, il_16, il_18, il_20, il_24, il_32, il_35, il_40, il_44, il_47, il_48, il_56, il_57, il_58, il_59, il_63, il_64, il_72, il_100, il_120, il_126, il_127, il_160, il_192, il_255, il_349, il_1748, il_6992, iI_add, iI_sub, iI_mul, iI_neg, iI_le, iI_lt, iI_eq, rd_lA, wr_lA, rd_lR, wr_lR, ite_iI, max_iI, min_iI, rem_iI, div_iI, ite_true, ite_false, if_true, if_false, ite_self, and_self, and_true, true_and, and_false, false_and, or_self, or_true, true_or, or_false, false_or, not_true_eq_false, not_false_eq_true, isDigit_iI]
            exact g
          · have := hxw hy
            simp (disch := omega) only [↓bd_e, ↓jn_e, ↓opt_bind, ↓reduceIte, iLeT, iLeF, iLtT, iLtF, iEqT, iEqF, il_0, il_1, il_2, il_3, il_4, il_5, il_6, il_7, il_8, il_9, il_10, il_11, il_12, il_13, il_14, il_15, il_16, il_18, il_20, il_24, il_32, il_35, il_40, il_44, il_47, il_48, il_56, il_57, il_58, il_59, il_63, il_64, il_72, il_100, il_120, il_126, il_127, il_160, il_192, il_255, il_349, il_1748, il_6992, iI_add, iI_sub, iI_mul, iI_neg, iI_le, iI_lt, iI_eq, rd_lA, wr_lA, rd_lR, wr_lR, ite_iI, max_iI, min_iI, rem_iI, div_iI, ite_true, ite_false, if_true, if_false, ite_self, and_self, and_true, true_and, and_false, false_and, or_self, or_true, true_or, or_false, false_or, not_true_eq_false, not_false_eq_true, isDigit_iI]
            exact g
        · rw [if_neg h9] at hbad
          by_cases hx0 : x ≤ 0
          · simp (disch := omega) only [↓bd_e, ↓jn_e, ↓opt_bind, ↓reduceIte, iLeT, iLeF, iLtT, iLtF, iEqT, iEqF, il_0, il_1, il_2, il_3, il_4, il_5, il_6, il_7, il_8, il_9, il_10, il_11, il_12, il_13, il_14, il_15, il_16, il_18, il_20, il_24, il_32, il_35, il_40, il_44, il_47, il_48, il_56, il_57, il_58, il_59, il_63, il_64, il_72, il_100, il_120, il_126, il_127, il_160, il_192, il_255, il_349, il_1748, il_6992, iI_add, iI_sub, iI_mul, iI_neg, iI_le, iI_lt, iI_eq, rd_lA, wr_lA, rd_lR, wr_lR, ite_iI, max_iI, min_iI, rem_iI, div_iI, ite_true, ite_false, if_true, if_false, ite_self, and_self, and_true, true_and, and_false, false_and, or_self, or_true, true_or, or_false, false_or, not_true_eq_false, not_false_eq_true, isDigit_iI]
            exact hbad rfl
          · by_cases hy : y = 0
            · simp (disch := omega) only [↓bd_e, ↓jn_e, ↓opt_bind, ↓reduceIte, iLeT, iLeF, iLtT, iLtF, iEqT, iEqF, il_0, il_1, il_2, il_3, il_4, il_5, il_6, il_7, il_8, il_9, il_10, il_11, il_12, il_13, il_14, il_15, il_16, il_18, il_20, il_24, il_32, il_35, il_40, il_44, il_47, il_48, il_56, il_57, il_58, il_59, il_63, il_64, il_72, il_100, il_120, il_126, il_127, il_160, il_192, il_255, il_349, il_1748, il_6992, iI_add, iI_sub, iI_mul, iI_neg, iI_le, iI_lt, iI_eq, rd_lA, wr_lA, rd_lR, wr_lR, ite_iI, max_iI, min_iI, rem_iI, div_iI, ite_true, ite_false, if_true, if_false, ite_self, and_self, and_true, true_and, and_false, false_and, or_self, or_true, true_or, or_false, false_or, not_true_eq_false, not_false_eq_true, isDigit_iI]
              exact hbad rfl
            · have := hxw hy
              by_cases hxx : x = w8
              · simp (disch := omega) only [↓bd_e, ↓jn_e, ↓opt_bind, ↓reduceIte, iLeT, iLeF, iLtT, iLtF, iEqT, iEqF, il_0, il_1, il_2, il_3, il_4, il_5, il_6, il_7, il_8, il_9, il_10, il_11, il_12, il_13, il_14, il_15, il_16, il_18, il_20, il_24, il_32, il_35, il_40, il_44, il_47, il_48, il_56, il_57, il_58, il_59, il_63, il_64, il_72, il_100, il_120, il_126, il_127, il_160, il_192, il_255, il_349, il_1748, il_6992, iI_add, iI_sub, iI_mul, iI_neg, iI_le, iI_lt, iI_eq, rd_lA, wr_lA, rd_lR, wr_lR, ite_iI, max_iI, min_iI, rem_iI, div_iI, ite_true, ite_false, if_true, if_false, ite_self, and_self, and_true, true_and, and_false, false_and, or_self, or_true, true_or, or_false, false_or, not_true_eq_false, not_false_eq_true, isDigit_iI]
                exact hbad rfl
              · simp (disch := omega) only [↓bd_e, ↓jn_e, ↓opt_bind, ↓reduceIte, iLeT, iLeF, iLtT, iLtF, iEqT, iEqF, il_0, il_1, il_2, il_3, il_4, il_5, il_6, il_7, il_8, il_9, il_10, il_11, il_12, il_13, il_14, il_15, il_16, il_18, il_20, il_24, il_32, il_35, il_40, il_44, il_47, il_48, il_56, il_57, il_58, il_59, il_63, il_64, il_72, il_100, il_120, il_126, il_127, il_160, il_192, il_255, il_349, il_1748, il_6992, iI_add, iI_sub, iI_mul, iI_neg, iI_le, iI_lt, iI_eq, rd_lA, wr_lA, rd_lR, wr_lR, ite_iI, max_iI, min_iI, rem_iI, div_iI, ite_true, ite_false, if_true, if_false, ite_self, and_self, and_true, true_and, and_false, false_and, or_self, or_true, true_or, or_false, false_or, not_true_eq_false, not_false_eq_true, isDigit_iI]
                exact hbad rfl
theorem m_fault_L {T : Int → Int} {len : Nat} (ht : tTx T len) (P : Option (Int32 × Int32) → Prop) (K : Int32 → Int32 → Int32 → Option (Int32 × Int32))
    (hK : ∀ x y w st m, tS T len = some (x, y, w, st, m) → P (K (iI x) (iI y) (iI m))) (hs : ∀ (k : Nat) (m : Int), k < len → tFin T len = k → P (some (iI k, iI m)))
    (n : Nat) (k : Int) (s : (Int × Int × Int × Int × Int) × Int) (hk : k ≤ len) (hn : (len : Int) - k < n) (h0 : 0 ≤ k) (h : tS T k.toNat = some s.1) (hw : s.1.2.1 ≠ 0 → s.2 = s.1.2.2.1) (hw0 : 0 ≤ s.2 ∧ s.2 ≤ 8) :
    P (f_X11_faultOf_L14 (iI len) (lA T) K n (iI s.1.1) (iI s.1.2.1) (iI s.2) (iI k) (iI s.1.2.2.2.2)) := by
  obtain ⟨hl, hc⟩ := ht
  refine lp (fun n k s => f_X11_faultOf_L14 (iI len) (lA T) K n (iI s.1.1) (iI s.1.2.1) (iI s.2) (iI k) (iI s.1.2.2.2.2)) P len (fun k s => 0 ≤ k ∧ tS T k.toNat = some s.1 ∧ (s.1.2.1 ≠ 0 → s.2 = s.1.2.2.1) ∧ 0 ≤ s.2 ∧ s.2 ≤ 8) ?_ ?_ n k s hk hn ⟨h0, h, hw, hw0⟩
  · rintro n ⟨⟨x, y, w, st, m⟩, w'⟩ ⟨h0, h, -⟩
    rw [Int.toNat_natCast] at h
    dsimp only
    unfold f_X11_faultOf_L14
    simp (disch := omega) only [↓bd_e, ↓jn_e, ↓opt_bind, ↓reduceIte, iLeT, iLeF, iLtT, iLtF, iEqT, iEqF, il_0, il_1, il_2, il_3, il_4, il_5, il_6, il_7, il_8, il_9, il_10, il_11, il_12, il_13, il_14, il_15, il_16, il_18, il_20, il_24, il_32, il_35, il_40, il_44, il_47, il_48, il_56, il_57, il_58, il_59, il_63, il_64, il_72, il_100, il_120, il_126, il_127, il_160, il_192, il_255, il_349, il_1748, il_6992, iI_add, iI_sub, iI_mul, iI_neg, iI_le, iI_lt, iI_eq, rd_lA, wr_lA, rd_lR, wr_lR, ite_iI, max_iI, min_iI, rem_iI, div_iI, ite_true, ite_false, if_true, if_false, ite_self, and_self, and_true, true_and, and_false, false_and, or_self, or_true, true_or, or_false, false_or, not_true_eq_false, not_false_eq_true]
    exact hK x y w st m h
  · rintro n k ⟨⟨x, y, w, st, m⟩, w'⟩ hk ⟨h0, h, hw, hw0, hw8⟩ ih
    have hcc := hc k h0 hk
    obtain ⟨o1, o2, o3, o4, o5, o6⟩ := tS_ok h
    have hm := tS_m h
    dsimp only at o1 o2 o3 o4 o5 o6 ih hw hw0 hw8 ⊢
    have hst : tS T (k + 1).toNat = tStep (T k) k (x, y, w, st, m) := by
      rw [show (k + 1).toNat = k.toNat + 1 by omega]
      show (tS T k.toNat).bind (tStep (T (k.toNat : Int)) (k.toNat : Int)) = _
      rw [h, Int.toNat_of_nonneg h0]
      rfl
    have hbad : tStep (T k) k (x, y, w, st, m) = none → P (some (iI k, iI m)) := by
      intro e
      have := hs k.toNat m (by omega) (tFin_stop h (by rw [Int.toNat_of_nonneg h0]; exact e) (by omega))
      rwa [Int.toNat_of_nonneg h0] at this
    unfold f_X11_faultOf_L14
    have hgo : ∀ x' y' w1 st' m' w2, tStep (T k) k (x, y, w, st, m) = some (x', y', w1, st', m') → (y' ≠ 0 → w2 = w1) → 0 ≤ w2 ∧ w2 ≤ 8 → P (f_X11_faultOf_L14 (iI len) (lA T) K n (iI x') (iI y') (iI w2) (iI (k + 1)) (iI m')) := fun x' y' w1 st' m' w2 e e2 e3 => ih ((x', y', w1, st', m'), w2) ⟨by omega, by rw [hst]; exact e, e2, e3⟩
    unfold tStep at hbad hgo
    dsimp only at hbad hgo
    by_cases hd : 48 ≤ T k ∧ T k ≤ 57
    · rw [if_pos hd] at hbad hgo
      by_cases hy : y = 0
      · rw [if_pos hy] at hbad hgo
        by_cases hx : x < 8
        · rw [if_pos hx] at hgo
          have g := hgo _ _ _ _ _ w' rfl hw ⟨hw0, hw8⟩
          simp (disch := omega) only [↓bd_e, ↓jn_e, ↓opt_bind, ↓reduceIte, iLeT, iLeF, iLtT, iLtF, iEqT, iEqF, il_0, il_1, il_2, il_3, il_4, il_5, il_6, il_7, il_8, il_9, il_10, il_11, il_12, il_13, il_14, il_15, il_16, il_18, il_20, il_24, il_32, il_35, il_40, il_44, il_47, il_48, il_56, il_57, il_58, il_59, il_63, il_64, il_72, il_100, il_120, il_126, il_127, il_160, il_192, il_255, il_349, il_1748, il_6992, iI_add, iI_sub, iI_mul, iI_neg, iI_le, iI_lt, iI_eq, rd_lA, wr_lA, rd_lR, wr_lR, ite_iI, max_iI, min_iI, rem_iI, div_iI, ite_true, ite_false, if_true, if_false, ite_self, and_self, and_true, true_and, and_false, false_and, or_self, or_true, true_or, or_false, false_or, not_true_eq_false, not_false_eq_true, in_iI]
          exact g
        · rw [if_neg hx] at hbad
          simp (disch := omega) only [↓bd_e, ↓jn_e, ↓opt_bind, ↓reduceIte, iLeT, iLeF, iLtT, iLtF, iEqT, iEqF, il_0, il_1, il_2, il_3, il_4, il_5, il_6, il_7, il_8, il_9, il_10, il_11, il_12, il_13, il_14, il_15, il_16, il_18, il_20, il_24, il_32, il_35, il_40, il_44, il_47, il_48, il_56, il_57, il_58, il_59, il_63, il_64, il_72, il_100, il_120, il_126, il_127, il_160, il_192, il_255, il_349, il_1748, il_6992, iI_add, iI_sub, iI_mul, iI_neg, iI_le, iI_lt, iI_eq, rd_lA, wr_lA, rd_lR, wr_lR, ite_iI, max_iI, min_iI, rem_iI, div_iI, ite_true, ite_false, if_true, if_false, ite_self, and_self, and_true, true_and, and_false, false_and, or_self, or_true, true_or, or_false, false_or, not_true_eq_false, not_false_eq_true, in_iI]
          exact hbad rfl
      · rw [if_neg hy] at hbad hgo
        have := hw hy
        by_cases hx : x < w
        · rw [if_pos hx] at hgo
          have g := hgo _ _ _ _ _ w' rfl hw ⟨hw0, hw8⟩
          simp (disch := omega) only [↓bd_e, ↓jn_e, ↓opt_bind, ↓reduceIte, iLeT, iLeF, iLtT, iLtF, iEqT, iEqF, il_0, il_1, il_2, il_3, il_4, il_5, il_6, il_7, il_8, il_9, il_10, il_11, il_12, il_13, il_14, il_15, il_16, il_18, il_20, il_24, il_32, il_35, il_40, il_44, il_47, il_48, il_56, il_57, il_58, il_59, il_63, il_64, il_72, il_100, il_120, il_126, il_127, il_160, il_192, il_255, il_349, il_1748, il_6992, iI_add, iI_sub, iI_mul, iI_neg, iI_le, iI_lt, iI_eq, rd_lA, wr_lA, rd_lR, wr_lR, ite_iI, max_iI, min_iI, rem_iI, div_iI, ite_true, ite_false, if_true, if_false, ite_self, and_self, and_true, true_and, and_false, false_and, or_self, or_true, true_or, or_false, false_or, not_true_eq_false, not_false_eq_true, in_iI]
          exact g
        · rw [if_neg hx] at hbad
          by_cases hx8 : x = 8
          · simp (disch := omega) only [↓bd_e, ↓jn_e, ↓opt_bind, ↓reduceIte, iLeT, iLeF, iLtT, iLtF, iEqT, iEqF, il_0, il_1, il_2, il_3, il_4, il_5, il_6, il_7, il_8, il_9, il_10, il_11, il_12, il_13, il_14, il_15, il_16, il_18, il_20, il_24, il_32, il_35, il_40, il_44, il_47, il_48, il_56, il_57, il_58, il_59, il_63, il_64, il_72, il_100, il_120, il_126, il_127, il_160, il_192, il_255, il_349, il_1748, il_6992, iI_add, iI_sub, iI_mul, iI_neg, iI_le, iI_lt, iI_eq, rd_lA, wr_lA, rd_lR, wr_lR, ite_iI, max_iI, min_iI, rem_iI, div_iI, ite_true, ite_false, if_true, if_false, ite_self, and_self, and_true, true_and, and_false, false_and, or_self, or_true, true_or, or_false, false_or, not_true_eq_false, not_false_eq_true, in_iI]
            exact hbad rfl
          · simp (disch := omega) only [↓bd_e, ↓jn_e, ↓opt_bind, ↓reduceIte, iLeT, iLeF, iLtT, iLtF, iEqT, iEqF, il_0, il_1, il_2, il_3, il_4, il_5, il_6, il_7, il_8, il_9, il_10, il_11, il_12, il_13, il_14, il_15, il_16, il_18, il_20, il_24, il_32, il_35, il_40, il_44, il_47, il_48, il_56, il_57, il_58, il_59, il_63, il_64, il_72, il_100, il_120, il_126, il_127, il_160, il_192, il_255, il_349, il_1748, il_6992, iI_add, iI_sub, iI_mul, iI_neg, iI_le, iI_lt, iI_eq, rd_lA, wr_lA, rd_lR, wr_lR, ite_iI, max_iI, min_iI, rem_iI, div_iI, ite_true, ite_false, if_true, if_false, ite_self, and_self, and_true, true_and, and_false, false_and, or_self, or_true, true_or, or_false, false_or, not_true_eq_false, not_false_eq_true, in_iI]
            exact hbad rfl
    · rw [if_neg hd] at hbad hgo
      by_cases h7 : T k = 47 ∧ 0 < x ∧ (y = 0 ∨ x = w) ∧ y < 7
      · rw [if_pos h7] at hgo
        have g := hgo _ _ _ _ _ x rfl (fun _ => rfl) ⟨o1, o2⟩
        by_cases hy : y = 0
        · simp (disch := omega) only [↓bd_e, ↓jn_e, ↓opt_bind, ↓reduceIte, iLeT, iLeF, iLtT, iLtF, iEqT, iEqF, il_0, il_1, il_2, il_3, il_4, il_5, il_6, il_7, il_8, il_9, il_10, il_11, il_12, il_13, il_14, il_15, il_16, il_18, il_20, il_24, il_32, il_35, il_40, il_44, il_47, il_48, il_56, il_57, il_58, il_59, il_63, il_64, il_72, il_100, il_120, il_126, il_127, il_160, il_192, il_255, il_349, il_1748, il_6992, iI_add, iI_sub, iI_mul, iI_neg, iI_le, iI_lt, iI_eq, rd_lA, wr_lA, rd_lR, wr_lR, ite_iI, max_iI, min_iI, rem_iI, div_iI, ite_true, ite_false, if_true, if_false, ite_self, and_self, and_true, true_and, and_false, false_and, or_self, or_true, true_or, or_false, false_or, not_true_eq_false, not_false_eq_true, in_iI]
          exact g
        · have := hw hy
          simp (disch := omega) only [↓bd_e, ↓jn_e, ↓opt_bind, ↓reduceIte, iLeT, iLeF, iLtT, iLtF, iEqT, iEqF, il_0, il_1, il_2, il_3, il_4, il_5, il_6, il_7, il_8, il_9, il_10, il_11, il_12, il_13, il_14, il_15, il_16, il_18, il_20, il_24, il_32, il_35, il_40, il_44, il_47, il_48, il_56, il_57, il_58, il_59, il_63, il_64, il_72, il_100, il_120, il_126, il_127, il_160, il_192, il_255, il_349, il_1748, il_6992, iI_add, iI_sub, iI_mul, iI_neg, iI_le, iI_lt, iI_eq, rd_lA, wr_lA, rd_lR, wr_lR, ite_iI, max_iI, min_iI, rem_iI, div_iI, ite_true, ite_false, if_true, if_false, ite_self, and_self, and_true, true_and, and_false, false_and, or_self, or_true, true_or, or_false, false_or, not_true_eq_false, not_false_eq_true, in_iI]
          exact g
      · rw [if_neg h7] at hbad hgo
        by_cases h9 : T k = 59 ∧ 0 < x ∧ (y = 0 ∨ x = w)
        · rw [if_pos h9] at hgo
          have g := hgo _ _ _ _ _ w' rfl (fun z => absurd rfl z) ⟨hw0, hw8⟩
          by_cases hy : y = 0
          · simp (disch := omega) only [↓bd_e, ↓jn_e, ↓opt_bind, ↓reduceIte, iLeT, iLeF, iLtT, iLtF, iEqT, iEqF, il_0, il_1, il_2, il_3, il_4, il_5, il_6, il_7, il_8, il_9, il_10, il_11, il_12, il_13, il_14, il_15, il_16, il_18, il_20, il_24, il_32, il_35, il_40, il_44, il_47, il_48, il_56, il_57, il_58, il_59, il_63, il_64, il_72, il_100, il_120, il_126, il_127, il_160, il_192, il_255, il_349, il_1748, il_6992, iI_add, iI_sub, iI_mul, iI_neg, iI_le, iI_lt, iI_eq, rd_lA, wr_lA, rd_lR, wr_lR, ite_iI, max_iI, min_iI, rem_iI, div_iI, ite_true, ite_false, if_true, if_false, ite_self, and_self, and_true, true_and, and_false, false_and, or_self, or_true, true_or, or_false, false_or, not_true_eq_false, not_false_eq_true, in_iI]
            exact g
          · have := hw hy
            simp (disch := omega) only [↓bd_e, ↓jn_e, ↓opt_bind, ↓reduceIte, iLeT, iLeF, iLtT, iLtF, iEqT, iEqF, il_0, il_1, il_2, il_3, il_4, il_5, il_6, il_7, il_8, il_9, il_10, il_11, il_12, il_13, il_14, il_15, il_16, il_18, il_20, il_24, il_32, il_35, il_40, il_44, il_47, il_48, il_56, il_57, il_58, il_59, il_63, il_64, il_72, il_100, il_120, il_126, il_127, il_160, il_192, il_255, il_349, il_1748, il_6992, iI_add, iI_sub, iI_mul, iI_neg, iI_le, iI_lt, iI_eq, rd_lA, wr_lA, rd_lR, wr_lR, ite_iI, max_iI, min_iI, rem_iI, div_iI, ite_true, ite_false, if_true, if_false, ite_self, and_self, and_true, true_and, and_false, false_and, or_self, or_true, true_or, or_false, false_or, not_true_eq_false, not_false_eq_true, in_iI]
            exact g
        · rw [if_neg h9] at hbad
          by_cases hx0 : x ≤ 0
          · simp (disch := omega) only [↓bd_e, ↓jn_e, ↓opt_bind, ↓reduceIte, iLeT, iLeF, iLtT, iLtF, iEqT, iEqF, il_0, il_1, il_2, il_3, il_4, il_5, il_6, il_7, il_8, il_9, il_10, il_11, il_12, il_13, il_14, il_15, il_16, il_18, il_20, il_24, il_32, il_35, il_40, il_44, il_47, il_48, il_56, il_57, il_58, il_59, il_63, il_64, il_72, il_100, il_120, il_126, il_127, il_160, il_192, il_255, il_349, il_1748, il_6992, iI_add, iI_sub, iI_mul, iI_neg, iI_le, iI_lt, iI_eq, rd_lA, wr_lA, rd_lR, wr_lR, ite_iI, max_iI, min_iI, rem_iI, div_iI, ite_true, ite_false, if_true, if_false, ite_self, and_self, and_true, true_and, and_false, false_and, or_self, or_true, true_or, or_false, false_or, not_true_eq_false, not_false_eq_true, in_iI]
            exact hbad rfl
          · by_cases hy : y = 0
            · simp (disch := omega) only [↓bd_e, ↓jn_e, ↓opt_bind, ↓reduceIte, iLeT, iLeF, iLtT, iLtF, iEqT, iEqF, il_0, il_1, il_2, il_3, il_4, il_5, il_6, il_7, il_8, il_9, il_10, il_11, il_12, il_13, il_14, il_15, il_16, il_18, il_20, il_24, il_32, il_35, il_40, il_44, il_47, il_48, il_56, il_57, il_58, il_59, il_63, il_64, il_72, il_100, il_120, il_126, il_127, il_160, il_192, il_255, il_349, il_1748, il_6992, iI_add, iI_sub, iI_mul, iI_neg, iI_le, iI_lt, iI_eq, rd_lA, wr_lA, rd_lR, wr_lR, ite_iI, max_iI, min_iI, rem_iI, div_iI, ite_true, ite_false, if_true, if_false, ite_self, and_self, and_true, true_and, and_false, false_and, or_self, or_true, true_or, or_false, false_or, not_true_eq_false, not_false_eq_true, in_iI]
              exact hbad rfl
            · have := hw hy
              by_cases hxx : x = w'
              · simp (disch := omega) only [↓bd_e, ↓jn_e, ↓opt_bind, ↓reduceIte, iLeT, iLeF, iLtT, iLtF, iEqT, iEqF, il_0, il_1, il_2, il_3, il_4, il_5, il_6, il_7, il_8, il_9, il_10, il_11, il_12, il_13, il_14, il_15, il_16, il_18, il_20, il_24, il_32, il_35, il_40, il_44, il_47, il_48, il_56, il_57, il_58, il_59, il_63, il_64, il_72, il_100, il_120, il_126, il_127, il_160, il_192, il_255, il_349, il_1748, il_6992, iI_add, iI_sub, iI_mul, iI_neg, iI_le, iI_lt, iI_eq, rd_lA, wr_lA, rd_lR, wr_lR, ite_iI, max_iI, min_iI, rem_iI, div_iI, ite_true, ite_false, if_true, if_false, ite_self, and_self, and_true, true_and, and_false, false_and, or_self, or_true, true_or, or_false, false_or, not_true_eq_false, not_false_eq_true, in_iI]
                exact hbad rfl
              · simp (disch := omega) only [↓bd_e, ↓jn_e, ↓opt_bind, ↓reduceIte, iLeT, iLeF, iLtT, iLtF, iEqT, iEqF, il_0, il_1, il_2, il_3, il_4, il_5, il_6, il_7, il_8, il_9, il_10, il_11, il_12, il_13, il_14, il_15, il_16, il_18, il_20, il_24, il_32, il_35, il_40, il_44, il_47, il_48, il_56, il_57, il_58, il_59, il_63, il_64, il_72, il_100, il_120, il_126, il_127, il_160, il_192, il_255, il_349, il_1748, il_6992, iI_add, iI_sub, iI_mul, iI_neg, iI_le, iI_lt, iI_eq, rd_lA, wr_lA, rd_lR, wr_lR, ite_iI, max_iI, min_iI, rem_iI, div_iI, ite_true, ite_false, if_true, if_false, ite_self, and_self, and_true, true_and, and_false, false_and, or_self, or_true, true_or, or_false, false_or, not_true_eq_false, not_false_eq_true, in_iI]
                exact hbad rfl
theorem tFin_of {T : Int → Int} (len : Nat) : (∃ x y w st m, tS T len = some (x, y, w, st, m) ∧ tFin T len = if x = 0 ∧ y = 0 then -1 else (len : Int)) ∨ (∃ k : Nat, k < len ∧ tFin T len = k) := by
  cases e : tS T len with
  | some s =>
    obtain ⟨x, y, w, st, m⟩ := s
    exact Or.inl ⟨x, y, w, st, m, rfl, tFin_end e⟩
  | none =>
    have key : ∀ j : Nat, tS T j = none → ∃ (k : Nat) (s : _), k < j ∧ tS T k = some s ∧ tStep (T k) k s = none := by
      intro j
      induction j with
      | zero => intro h; cases h
      | succ j ih =>
        intro h
        cases e2 : tS T j with
        | none =>
          obtain ⟨k, s, h1, h2⟩ := ih e2
          exact ⟨k, s, by omega, h2⟩
        | some s =>
          refine ⟨j, s, by omega, e2, ?_⟩
          have h3 : (tS T j).bind (tStep (T j) j) = none := h
          rw [e2] at h3
          exact h3
    obtain ⟨k, s, h1, h2, h3⟩ := key len e
    exact Or.inr ⟨k, h1, tFin_stop h2 h3 h1⟩
/-- the class's fault position -/
theorem c_fault {T : Int → Int} {len : Nat} (ht : tTx T len) : f_X9_findFault (iI len) (lA T) = some (iI (if tFin T len = -1 then -4 else tFin T len)) := by
  have hl := ht.1
  unfold f_X9_findFault
  obtain ⟨fu, hfu, hfu2⟩ := fuel_ex; rw [hfu]
  simp only [g_jn]
  have h := c_fault_L ht (fun r => r = some (iI (if tFin T len = -1 then -4 else tFin T len))) (fun x1 x2 => if x1 = 0 then (if x2 = 0 then some (-4 : Int32) else some (iI len)) else some (iI len)) ?_ ?_ fu 0 (0, 0, 0, 0, 0) (by omega) (by omega) (by omega) rfl
  · simp (disch := omega) only [↓bd_e, ↓jn_e, ↓opt_bind, ↓reduceIte, iLeT, iLeF, iLtT, iLtF, iEqT, iEqF, il_0, il_1, il_2, il_3, il_4, il_5, il_6, il_7, il_8, il_9, il_10, il_11, il_12, il_13, il_14, il_15, il_16, il_18, il_20, il_24, il_32, il_35, il_40, il_44, il_47, il_48, il_56, il_57, il_58, il_59, il_63, il_64, il_72, il_100, il_120, il_126, il_127, il_160, il_192, il_255, il_349, il_1748, il_6992, iI_add, iI_sub, iI_mul, iI_neg, iI_le, iI_lt, iI_eq, rd_lA, wr_lA, rd_lR, wr_lR, ite_iI, max_iI, min_iI, rem_iI, div_iI, ite_true, ite_false, if_true, if_false, ite_self, and_self, and_true, true_and, and_false, false_and, or_self, or_true, true_or, or_false, false_or, not_true_eq_false, not_false_eq_true] at h ⊢
    exact h
  · intro x y w st m e
    have o := tS_ok e
    unfold tOk at o
    dsimp only at o
    rw [tFin_end e]
    by_cases h1 : x = 0
    · by_cases h2 : y = 0
      · simp (disch := omega) only [↓bd_e, ↓jn_e, ↓opt_bind, ↓reduceIte, iLeT, iLeF, iLtT, iLtF, iEqT, iEqF, il_0, il_1, il_2, il_3, il_4, il_5, il_6, il_7, il_8, il_9, il_10, il_11, il_12, il_13, il_14, il_15, il_16, il_18, il_20, il_24, il_32, il_35, il_40, il_44, il_47, il_48, il_56, il_57, il_58, il_59, il_63, il_64, il_72, il_100, il_120, il_126, il_127, il_160, il_192, il_255, il_349, il_1748, il_6992, iI_add, iI_sub, iI_mul, iI_neg, iI_le, iI_lt, iI_eq, rd_lA, wr_lA, rd_lR, wr_lR, ite_iI, max_iI, min_iI, rem_iI, div_iI, ite_true, ite_false, if_true, if_false, ite_self, and_self, and_true, true_and, and_false, false_and, or_self, or_true, true_or, or_false, false_or, not_true_eq_false, not_false_eq_true, h1, h2]
      · simp (disch := omega) only [↓bd_e, ↓jn_e, ↓opt_bind, ↓reduceIte, iLeT, iLeF, iLtT, iLtF, iEqT, iEqF, il_0, il_1, il_2, il_3, il_4, il_5, il_6, il_7, il_8, il_9, il_10, il_11, il_12, il_13, il_14, il_15, il_16, il_18, il_20, il_24, il_32, il_35, il_40, il_44, il_47, il_48, il_56, il_57, il_58, il_59, il_63, il_64, il_72, il_100, il_120, il_126, il_127, il_160, il_192, il_255, il_349, il_1748, il_6992, iI_add, iI_sub, iI_mul, iI_neg, iI_le, iI_lt, iI_eq, rd_lA, wr_lA, rd_lR, wr_lR, ite_iI, max_iI, min_iI, rem_iI, div_iI, ite_true, ite_false, if_true, if_false, ite_self, and_self, and_true, true_and, and_false, false_and, or_self, or_true, true_or, or_false, false_or, not_true_eq_false, not_false_eq_true, h1, h2]
    · simp (disch := omega) only [↓bd_e, ↓jn_e, ↓opt_bind, ↓reduceIte, iLeT, iLeF, iLtT, iLtF, iEqT, iEqF, il_0, il_1, il_2, il_3, il_4, il_5, il_6, il_7, il_8, il_9, il_10, il_11, il_12, il_13, il_14, il_15, il_16, il_18, il_20, il_24, il_32, il_35, il_40, il_44, il_47, il_48, il_56, il_57, il_58, il_59, il_63, il_64, il_72, il_100, il_120, il_126, il_127, il_160, il_192, il_255, il_349, il_1748, il_6992, iI_add, iI_sub, iI_mul, iI_neg, iI_le, iI_lt, iI_eq, rd_lA, wr_lA, rd_lR, wr_lR, ite_iI, max_iI, min_iI, rem_iI, div_iI, ite_true, ite_false, if_true, if_false, ite_self, and_self, and_true, true_and, and_false, false_and, or_self, or_true, true_or, or_false, false_or, not_true_eq_false, not_false_eq_true, h1]
  · intro k hk e
    rw [e, if_neg (by omega)]
/-- the reference's -/
theorem m_fault {T : Int → Int} {len : Nat} (ht : tTx T len) : ∃ m, f_X11_faultOf (iI len) (lA T) = some (iI (tFin T len), iI m) ∧ ∀ x y w st m', tS T len = some (x, y, w, st, m') → m' = m := by
  have hl := ht.1
  unfold f_X11_faultOf
  obtain ⟨fu, hfu, hfu2⟩ := fuel_ex; rw [hfu]
  simp only [g_jn]
  have h := m_fault_L ht (fun r => ∃ m, r = some (iI (tFin T len), iI m) ∧ ∀ x y w st m', tS T len = some (x, y, w, st, m') → m' = m) (fun x1 x2 x3 => if 0 < x1 then some (iI len, x3) else if x2 ≤ 0 then some ((-1 : Int32), x3) else some (iI len, x3)) ?_ ?_ fu 0 ((0, 0, 0, 0, 0), 0) (by omega) (by omega) (by omega) rfl (fun z => absurd rfl z) ⟨by omega, by omega⟩
  · simp (disch := omega) only [↓bd_e, ↓jn_e, ↓opt_bind, ↓reduceIte, iLeT, iLeF, iLtT, iLtF, iEqT, iEqF, il_0, il_1, il_2, il_3, il_4, il_5, il_6, il_7, il_8, il_9, il_10, il_11, il_12, il_13, il_14, il_15, il_16, il_18, il_20, il_24, il_32, il_35, il_40, il_44, il_47, il_48, il_56, il_57, il_58, il_59, il_63, il_64, il_72, il_100, il_120, il_126, il_127, il_160, il_192, il_255, il_349, il_1748, il_6992, iI_add, iI_sub, iI_mul, iI_neg, iI_le, iI_lt, iI_eq, rd_lA, wr_lA, rd_lR, wr_lR, ite_iI, max_iI, min_iI, rem_iI, div_iI, ite_true, ite_false, if_true, if_false, ite_self, and_self, and_true, true_and, and_false, false_and, or_self, or_true, true_or, or_false, false_or, not_true_eq_false, not_false_eq_true] at h ⊢
    exact h
  · intro x y w st m e
    have o := tS_ok e
    unfold tOk at o
    dsimp only at o
    refine ⟨m, ?_, fun x' y' w' st' m' e' => by rw [e] at e'; cases e'; rfl⟩
    rw [tFin_end e]
    by_cases h1 : x = 0
    · by_cases h2 : y = 0
      · simp (disch := omega) only [↓bd_e, ↓jn_e, ↓opt_bind, ↓reduceIte, iLeT, iLeF, iLtT, iLtF, iEqT, iEqF, il_0, il_1, il_2, il_3, il_4, il_5, il_6, il_7, il_8, il_9, il_10, il_11, il_12, il_13, il_14, il_15, il_16, il_18, il_20, il_24, il_32, il_35, il_40, il_44, il_47, il_48, il_56, il_57, il_58, il_59, il_63, il_64, il_72, il_100, il_120, il_126, il_127, il_160, il_192, il_255, il_349, il_1748, il_6992, iI_add, iI_sub, iI_mul, iI_neg, iI_le, iI_lt, iI_eq, rd_lA, wr_lA, rd_lR, wr_lR, ite_iI, max_iI, min_iI, rem_iI, div_iI, ite_true, ite_false, if_true, if_false, ite_self, and_self, and_true, true_and, and_false, false_and, or_self, or_true, true_or, or_false, false_or, not_true_eq_false, not_false_eq_true, h1, h2]
      · simp (disch := omega) only [↓bd_e, ↓jn_e, ↓opt_bind, ↓reduceIte, iLeT, iLeF, iLtT, iLtF, iEqT, iEqF, il_0, il_1, il_2, il_3, il_4, il_5, il_6, il_7, il_8, il_9, il_10, il_11, il_12, il_13, il_14, il_15, il_16, il_18, il_20, il_24, il_32, il_35, il_40, il_44, il_47, il_48, il_56, il_57, il_58, il_59, il_63, il_64, il_72, il_100, il_120, il_126, il_127, il_160, il_192, il_255, il_349, il_1748, il_6992, iI_add, iI_sub, iI_mul, iI_neg, iI_le, iI_lt, iI_eq, rd_lA, wr_lA, rd_lR, wr_lR, ite_iI, max_iI, min_iI, rem_iI, div_iI, ite_true, ite_false, if_true, if_false, ite_self, and_self, and_true, true_and, and_false, false_and, or_self, or_true, true_or, or_false, false_or, not_true_eq_false, not_false_eq_true, h1, h2]
    · simp (disch := omega) only [↓bd_e, ↓jn_e, ↓opt_bind, ↓reduceIte, iLeT, iLeF, iLtT, iLtF, iEqT, iEqF, il_0, il_1, il_2, il_3, il_4, il_5, il_6, il_7, il_8, il_9, il_10, il_11, il_12, il_13, il_14, il_15, il_16, il_18, il_20, il_24, il_32, il_35, il_40, il_44, il_47, il_48, il_56, il_57, il_58, il_59, il_63, il_64, il_72, il_100, il_120, il_126, il_127, il_160, il_192, il_255, il_349, il_1748, il_6992, iI_add, iI_sub, iI_mul, iI_neg, iI_le, iI_lt, iI_eq, rd_lA, wr_lA, rd_lR, wr_lR, ite_iI, max_iI, min_iI, rem_iI, div_iI, ite_true, ite_false, if_true, if_false, ite_self, and_self, and_true, true_and, and_false, false_and, or_self, or_true, true_or, or_false, false_or, not_true_eq_false, not_false_eq_true]
  · intro k m hk e
    refine ⟨m, by rw [e], fun x' y' w' st' m' e' => ?_⟩
    exfalso
    rcases tFin_of (T := T) len with ⟨x, y, w, st, m, e1, e2⟩ | ⟨k2, h1, h2⟩
    · rw [e] at e2
      split at e2 <;> omega
    · have := tFin_end e'
      rw [e] at this
      split at this <;> omega
/-- the class counts the images -/
theorem c_count {T : Int → Int} {len : Nat} (ht : tTx T len) {x y w st m : Int} (e : tS T len = some (x, y, w, st, m)) : f_X9_countImages (iI len) (lA T) = some (iI m) := by
  have hl := ht.1
  unfold f_X9_countImages
  obtain ⟨fu, hfu, hfu2⟩ := fuel_ex; rw [hfu]
  refine lp (fun n k (s : Int) => f_X9_countImages_L4 (iI len) (lA T) n (iI s) (iI k)) (fun r => r = some (iI m)) len (fun k s => 0 ≤ k ∧ ∃ x y w st, tS T k.toNat = some (x, y, w, st, s)) ?_ ?_ fu 0 0 (by omega) (by omega) ⟨by omega, 0, 0, 0, 0, rfl⟩
  · rintro n s ⟨h0, x', y', w', st', h⟩
    rw [Int.toNat_natCast, e] at h
    cases h
    unfold f_X9_countImages_L4
    simp (disch := omega) only [↓bd_e, ↓jn_e, ↓opt_bind, ↓reduceIte, iLeT, iLeF, iLtT, iLtF, iEqT, iEqF, il_0, il_1, il_2, il_3, il_4, il_5, il_6, il_7, il_8, il_9, il_10, il_11, il_12, il_13, il_14, il_15, il_16, il_18, il_20, il_24, il_32, il_35, il_40, il_44, il_47, il_48, il_56, il_57, il_58, il_59, il_63, il_64, il_72, il_100, il_120, il_126, il_127, il_160, il_192, il_255, il_349, il_1748, il_6992, iI_add, iI_sub, iI_mul, iI_neg, iI_le, iI_lt, iI_eq, rd_lA, wr_lA, rd_lR, wr_lR, ite_iI, max_iI, min_iI, rem_iI, div_iI, ite_true, ite_false, if_true, if_false, ite_self, and_self, and_true, true_and, and_false, false_and, or_self, or_true, true_or, or_false, false_or, not_true_eq_false, not_false_eq_true]
  · rintro n k s hk ⟨h0, x', y', w', st', h⟩ ih
    have hcc := ht.2 k h0 hk
    have hm := tS_m h
    have hst : tS T (k + 1).toNat = tStep (T k) k (x', y', w', st', s) := by
      rw [show (k + 1).toNat = k.toNat + 1 by omega]
      show (tS T k.toNat).bind (tStep (T (k.toNat : Int)) (k.toNat : Int)) = _
      rw [h, Int.toNat_of_nonneg h0]
      rfl
    have hsome : ∃ s', tStep (T k) k (x', y', w', st', s) = some s' := by
      cases h2 : tStep (T k) k (x', y', w', st', s) with
      | some s' => exact ⟨s', rfl⟩
      | none =>
        exfalso
        have h3 := tF_stop h (by rw [Int.toNat_of_nonneg h0]; exact h2) len (by omega)
        rw [tF_none e] at h3
        omega
    obtain ⟨s', h2⟩ := hsome
    rw [h2] at hst
    unfold f_X9_countImages_L4
    rcases tStep_some h2 with ⟨h3, h4, -, rfl⟩ | ⟨h3, -, -, -, rfl⟩ | ⟨h3, -, -, rfl⟩
    · simp (disch := omega) only [↓bd_e, ↓jn_e, ↓opt_bind, ↓reduceIte, iLeT, iLeF, iLtT, iLtF, iEqT, iEqF, il_0, il_1, il_2, il_3, il_4, il_5, il_6, il_7, il_8, il_9, il_10, il_11, il_12, il_13, il_14, il_15, il_16, il_18, il_20, il_24, il_32, il_35, il_40, il_44, il_47, il_48, il_56, il_57, il_58, il_59, il_63, il_64, il_72, il_100, il_120, il_126, il_127, il_160, il_192, il_255, il_349, il_1748, il_6992, iI_add, iI_sub, iI_mul, iI_neg, iI_le, iI_lt, iI_eq, rd_lA, wr_lA, rd_lR, wr_lR, ite_iI, max_iI, min_iI, rem_iI, div_iI, ite_true, ite_false, if_true, if_false, ite_self, and_self, and_true, true_and, and_false, false_and, or_self, or_true, true_or, or_false, false_or, not_true_eq_false, not_false_eq_true]
      exact ih s ⟨by omega, _, _, _, _, hst⟩
    · simp (disch := omega) only [↓bd_e, ↓jn_e, ↓opt_bind, ↓reduceIte, iLeT, iLeF, iLtT, iLtF, iEqT, iEqF, il_0, il_1, il_2, il_3, il_4, il_5, il_6, il_7, il_8, il_9, il_10, il_11, il_12, il_13, il_14, il_15, il_16, il_18, il_20, il_24, il_32, il_35, il_40, il_44, il_47, il_48, il_56, il_57, il_58, il_59, il_63, il_64, il_72, il_100, il_120, il_126, il_127, il_160, il_192, il_255, il_349, il_1748, il_6992, iI_add, iI_sub, iI_mul, iI_neg, iI_le, iI_lt, iI_eq, rd_lA, wr_lA, rd_lR, wr_lR, ite_iI, max_iI, min_iI, rem_iI, div_iI, ite_true, ite_false, if_true, if_false, ite_self, and_self, and_true, true_and, and_false, false_and, or_self, or_true, true_or, or_false, false_or, not_true_eq_false, not_false_eq_true]
      exact ih s ⟨by omega, _, _, _, _, hst⟩
    · simp (disch := omega) only [↓bd_e, ↓jn_e, ↓opt_bind, ↓reduceIte, iLeT, iLeF, iLtT, iLtF, iEqT, iEqF, il_0, il_1, il_2, il_3, il_4, il_5, il_6, il_7, il_8, il_9, il_10, il_11, il_12, il_13, il_14, il_15, il_16, il_18, il_20, il_24, il_32, il_35, il_40, il_44, il_47, il_48, il_56, il_57, il_58, il_59, il_63, il_64, il_72, il_100, il_120, il_126, il_127, il_160, il_192, il_255, il_349, il_1748, il_6992, iI_add, iI_sub, iI_mul, iI_neg, iI_le, iI_lt, iI_eq, rd_lA, wr_lA, rd_lR, wr_lR, ite_iI, max_iI, min_iI, rem_iI, div_iI, ite_true, ite_false, if_true, if_false, ite_self, and_self, and_true, true_and, and_false, false_and, or_self, or_true, true_or, or_false, false_or, not_true_eq_false, not_false_eq_true]
      exact ih (s + 1) ⟨by omega, _, _, _, _, hst⟩
/-- append -/
theorem x_append {T : Int → Int} {len : Nat} (ht : tTx T len) (z : Int) (h1 : -2147483648 ≤ z) (h2 : z < 2147483648) : ∃ a T' len', tTx T' len' ∧ f_X10_append (iI len) (lA T) (iI z) = some (a, iI (len' : Nat), lA T') ∧ f_X11_append (iI len) (lA T) (iI z) = some (a, iI (len' : Nat), lA T') := by
  obtain ⟨hl, hc⟩ := ht
  unfold f_X10_append f_X11_append
  by_cases h : 32 ≤ z ∧ z ≤ 126
  · by_cases hlen : len = 160
    · refine ⟨iI (-2), T, len, ⟨hl, hc⟩, ?_, ?_⟩
      · unfold f_X9_add
        simp (disch := omega) only [↓bd_e, ↓jn_e, ↓opt_bind, ↓reduceIte, iLeT, iLeF, iLtT, iLtF, iEqT, iEqF, il_0, il_1, il_2, il_3, il_4, il_5, il_6, il_7, il_8, il_9, il_10, il_11, il_12, il_13, il_14, il_15, il_16, il_18, il_20, il_24, il_32, il_35, il_40, il_44, il_47, il_48, il_56, il_57, il_58, il_59, il_63, il_64, il_72, il_100, il_120, il_126, il_127, il_160, il_192, il_255, il_349, il_1748, il_6992, iI_add, iI_sub, iI_mul, iI_neg, iI_le, iI_lt, iI_eq, rd_lA, wr_lA, rd_lR, wr_lR, ite_iI, max_iI, min_iI, rem_iI, div_iI, ite_true, ite_false, if_true, if_false, ite_self, and_self, and_true, true_and, and_false, false_and, or_self, or_true, true_or, or_false, false_or, not_true_eq_false, not_false_eq_true, within_iI]
      · simp (disch := omega) only [↓bd_e, ↓jn_e, ↓opt_bind, ↓reduceIte, iLeT, iLeF, iLtT, iLtF, iEqT, iEqF, il_0, il_1, il_2, il_3, il_4, il_5, il_6, il_7, il_8, il_9, il_10, il_11, il_12, il_13, il_14, il_15, il_16, il_18, il_20, il_24, il_32, il_35, il_40, il_44, il_47, il_48, il_56, il_57, il_58, il_59, il_63, il_64, il_72, il_100, il_120, il_126, il_127, il_160, il_192, il_255, il_349, il_1748, il_6992, iI_add, iI_sub, iI_mul, iI_neg, iI_le, iI_lt, iI_eq, rd_lA, wr_lA, rd_lR, wr_lR, ite_iI, max_iI, min_iI, rem_iI, div_iI, ite_true, ite_false, if_true, if_false, ite_self, and_self, and_true, true_and, and_false, false_and, or_self, or_true, true_or, or_false, false_or, not_true_eq_false, not_false_eq_true, in_iI]
    · refine ⟨iI (len + 1), uI T len z, len + 1, ⟨by omega, fun j h1 h2 => ?_⟩, ?_, ?_⟩
      · rw [uI_at]
        split
        · omega
        · exact hc j h1 (by omega)
      · unfold f_X9_add
        simp (disch := omega) only [↓bd_e, ↓jn_e, ↓opt_bind, ↓reduceIte, iLeT, iLeF, iLtT, iLtF, iEqT, iEqF, il_0, il_1, il_2, il_3, il_4, il_5, il_6, il_7, il_8, il_9, il_10, il_11, il_12, il_13, il_14, il_15, il_16, il_18, il_20, il_24, il_32, il_35, il_40, il_44, il_47, il_48, il_56, il_57, il_58, il_59, il_63, il_64, il_72, il_100, il_120, il_126, il_127, il_160, il_192, il_255, il_349, il_1748, il_6992, iI_add, iI_sub, iI_mul, iI_neg, iI_le, iI_lt, iI_eq, rd_lA, wr_lA, rd_lR, wr_lR, ite_iI, max_iI, min_iI, rem_iI, div_iI, ite_true, ite_false, if_true, if_false, ite_self, and_self, and_true, true_and, and_false, false_and, or_self, or_true, true_or, or_false, false_or, not_true_eq_false, not_false_eq_true, within_iI]
        rfl
      · simp (disch := omega) only [↓bd_e, ↓jn_e, ↓opt_bind, ↓reduceIte, iLeT, iLeF, iLtT, iLtF, iEqT, iEqF, il_0, il_1, il_2, il_3, il_4, il_5, il_6, il_7, il_8, il_9, il_10, il_11, il_12, il_13, il_14, il_15, il_16, il_18, il_20, il_24, il_32, il_35, il_40, il_44, il_47, il_48, il_56, il_57, il_58, il_59, il_63, il_64, il_72, il_100, il_120, il_126, il_127, il_160, il_192, il_255, il_349, il_1748, il_6992, iI_add, iI_sub, iI_mul, iI_neg, iI_le, iI_lt, iI_eq, rd_lA, wr_lA, rd_lR, wr_lR, ite_iI, max_iI, min_iI, rem_iI, div_iI, ite_true, ite_false, if_true, if_false, ite_self, and_self, and_true, true_and, and_false, false_and, or_self, or_true, true_or, or_false, false_or, not_true_eq_false, not_false_eq_true, in_iI]
        rfl
  · refine ⟨iI (-1), T, len, ⟨hl, hc⟩, ?_, ?_⟩
    · by_cases h3 : z < 32
      · simp (disch := omega) only [↓bd_e, ↓jn_e, ↓opt_bind, ↓reduceIte, iLeT, iLeF, iLtT, iLtF, iEqT, iEqF, il_0, il_1, il_2, il_3, il_4, il_5, il_6, il_7, il_8, il_9, il_10, il_11, il_12, il_13, il_14, il_15, il_16, il_18, il_20, il_24, il_32, il_35, il_40, il_44, il_47, il_48, il_56, il_57, il_58, il_59, il_63, il_64, il_72, il_100, il_120, il_126, il_127, il_160, il_192, il_255, il_349, il_1748, il_6992, iI_add, iI_sub, iI_mul, iI_neg, iI_le, iI_lt, iI_eq, rd_lA, wr_lA, rd_lR, wr_lR, ite_iI, max_iI, min_iI, rem_iI, div_iI, ite_true, ite_false, if_true, if_false, ite_self, and_self, and_true, true_and, and_false, false_and, or_self, or_true, true_or, or_false, false_or, not_true_eq_false, not_false_eq_true, within_iI]
      · simp (disch := omega) only [↓bd_e, ↓jn_e, ↓opt_bind, ↓reduceIte, iLeT, iLeF, iLtT, iLtF, iEqT, iEqF, il_0, il_1, il_2, il_3, il_4, il_5, il_6, il_7, il_8, il_9, il_10, il_11, il_12, il_13, il_14, il_15, il_16, il_18, il_20, il_24, il_32, il_35, il_40, il_44, il_47, il_48, il_56, il_57, il_58, il_59, il_63, il_64, il_72, il_100, il_120, il_126, il_127, il_160, il_192, il_255, il_349, il_1748, il_6992, iI_add, iI_sub, iI_mul, iI_neg, iI_le, iI_lt, iI_eq, rd_lA, wr_lA, rd_lR, wr_lR, ite_iI, max_iI, min_iI, rem_iI, div_iI, ite_true, ite_false, if_true, if_false, ite_self, and_self, and_true, true_and, and_false, false_and, or_self, or_true, true_or, or_false, false_or, not_true_eq_false, not_false_eq_true, within_iI]
    · by_cases h3 : z < 32
      · simp (disch := omega) only [↓bd_e, ↓jn_e, ↓opt_bind, ↓reduceIte, iLeT, iLeF, iLtT, iLtF, iEqT, iEqF, il_0, il_1, il_2, il_3, il_4, il_5, il_6, il_7, il_8, il_9, il_10, il_11, il_12, il_13, il_14, il_15, il_16, il_18, il_20, il_24, il_32, il_35, il_40, il_44, il_47, il_48, il_56, il_57, il_58, il_59, il_63, il_64, il_72, il_100, il_120, il_126, il_127, il_160, il_192, il_255, il_349, il_1748, il_6992, iI_add, iI_sub, iI_mul, iI_neg, iI_le, iI_lt, iI_eq, rd_lA, wr_lA, rd_lR, wr_lR, ite_iI, max_iI, min_iI, rem_iI, div_iI, ite_true, ite_false, if_true, if_false, ite_self, and_self, and_true, true_and, and_false, false_and, or_self, or_true, true_or, or_false, false_or, not_true_eq_false, not_false_eq_true, in_iI]
      · simp (disch := omega) only [↓bd_e, ↓jn_e, ↓opt_bind, ↓reduceIte, iLeT, iLeF, iLtT, iLtF, iEqT, iEqF, il_0, il_1, il_2, il_3, il_4, il_5, il_6, il_7, il_8, il_9, il_10, il_11, il_12, il_13, il_14, il_15, il_16, il_18, il_20, il_24, il_32, il_35, il_40, il_44, il_47, il_48, il_56, il_57, il_58, il_59, il_63, il_64, il_72, il_100, il_120, il_126, il_127, il_160, il_192, il_255, il_349, il_1748, il_6992, iI_add, iI_sub, iI_mul, iI_neg, iI_le, iI_lt, iI_eq, rd_lA, wr_lA, rd_lR, wr_lR, ite_iI, max_iI, min_iI, rem_iI, div_iI, ite_true, ite_false, if_true, if_false, ite_self, and_self, and_true, true_and, and_false, false_and, or_self, or_true, true_or, or_false, false_or, not_true_eq_false, not_false_eq_true, in_iI]
/-- clearText, faultPosition -/
theorem x_faultPos {T : Int → Int} {len : Nat} (ht : tTx T len) : ∃ a m, f_X10_faultPosition (iI len) (lA T) = some a ∧ f_X11_faultPosition (iI len) (lA T) = some (a, m) := by
  obtain ⟨m, h1, -⟩ := m_fault ht
  have hl := ht.1
  have hr : -1 ≤ tFin T len ∧ tFin T len ≤ len := by
    rcases tFin_of (T := T) len with ⟨x, y, w, st, m, e1, e2⟩ | ⟨k2, h1, h2⟩
    · rw [e2]
      split <;> omega
    · omega
  refine ⟨_, iI m, by unfold f_X10_faultPosition; rw [c_fault ht]; rfl, ?_⟩
  unfold f_X11_faultPosition
  rw [h1]
  by_cases h : tFin T len = -1
  · simp (disch := omega) only [↓bd_e, ↓jn_e, ↓opt_bind, ↓reduceIte, iLeT, iLeF, iLtT, iLtF, iEqT, iEqF, il_0, il_1, il_2, il_3, il_4, il_5, il_6, il_7, il_8, il_9, il_10, il_11, il_12, il_13, il_14, il_15, il_16, il_18, il_20, il_24, il_32, il_35, il_40, il_44, il_47, il_48, il_56, il_57, il_58, il_59, il_63, il_64, il_72, il_100, il_120, il_126, il_127, il_160, il_192, il_255, il_349, il_1748, il_6992, iI_add, iI_sub, iI_mul, iI_neg, iI_le, iI_lt, iI_eq, rd_lA, wr_lA, rd_lR, wr_lR, ite_iI, max_iI, min_iI, rem_iI, div_iI, ite_true, ite_false, if_true, if_false, ite_self, and_self, and_true, true_and, and_false, false_and, or_self, or_true, true_or, or_false, false_or, not_true_eq_false, not_false_eq_true]
  · simp (disch := omega) only [↓bd_e, ↓jn_e, ↓opt_bind, ↓reduceIte, iLeT, iLeF, iLtT, iLtF, iEqT, iEqF, il_0, il_1, il_2, il_3, il_4, il_5, il_6, il_7, il_8, il_9, il_10, il_11, il_12, il_13, il_14, il_15, il_16, il_18, il_20, il_24, il_32, il_35, il_40, il_44, il_47, il_48, il_56, il_57, il_58, il_59, il_63, il_64, il_72, il_100, il_120, il_126, il_127, il_160, il_192, il_255, il_349, il_1748, il_6992, iI_add, iI_sub, iI_mul, iI_neg, iI_le, iI_lt, iI_eq, rd_lA, wr_lA, rd_lR, wr_lR, ite_iI, max_iI, min_iI, rem_iI, div_iI, ite_true, ite_false, if_true, if_false, ite_self, and_self, and_true, true_and, and_false, false_and, or_self, or_true, true_or, or_false, false_or, not_true_eq_false, not_false_eq_true]
