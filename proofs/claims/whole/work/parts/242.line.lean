/-! the line of the originals -/
def vRk (V : Int → Int) (c : Nat → Int → Int) (i : Int) : Int := if V 11 = 1 then c 2 i * c 3 i else if V 11 = 2 then 10 * max (c 2 i) (c 3 i) + min (c 2 i) (c 3 i) else if V 11 = 3 then 10 * c 3 i + c 2 i else 0
def vKy (V : Int → Int) (c : Nat → Int → Int) (i : Int) : Int := (200 - vRk V c i) * 24 + i
theorem vRk_r {V : Int → Int} {c : Nat → Int → Int} {i : Int} (h2 : 0 ≤ c 2 i ∧ c 2 i ≤ 8) (h3 : 0 ≤ c 3 i ∧ c 3 i ≤ 8) : 0 ≤ vRk V c i ∧ vRk V c i ≤ 100 := by
  have : 0 ≤ c 2 i * c 3 i ∧ c 2 i * c 3 i ≤ 8 * 8 := ⟨Int.mul_nonneg h2.1 h3.1, Int.mul_le_mul h2.2 h3.2 h3.1 (by omega)⟩
  unfold vRk
  split
  · omega
  · split
    · omega
    · split <;> omega
theorem c_rank {V : Int → Int} {S : Nat → Nat → Int32} {c d : Nat → Int → Int} (hs : vSet V) (hr : ∀ k : Nat, k < 12 → S 5 k = iI (V (1 + k))) {i : Int} (hi : 0 ≤ i ∧ i < 24) (hd : d 2 i = c 2 i ∧ d 3 i = c 3 i) (h2 : 0 ≤ c 2 i ∧ c 2 i ≤ 8) (h3 : 0 ≤ c 3 i ∧ c 3 i ≤ 8) : f_X3_rankOf S (lA (d 2)) (lA (d 3)) (iI i) = some (iI (vRk V c i)) := by
  have h11 : V 11 = 0 ∨ V 11 = 1 ∨ V 11 = 2 ∨ V 11 = 3 := by unfold vSet at hs; omega
  have e10 : S 5 10 = iI (V 11) := hr 10 (by omega)
  obtain ⟨d2, d3⟩ := hd
  unfold f_X3_rankOf vRk
  rw [e10]
  rcases h11 with e | e | e | e
  · simp (disch := omega) only [↓bd_e, ↓jn_e, ↓opt_bind, ↓reduceIte, iLeT, iLeF, iLtT, iLtF, iEqT, iEqF, il_0, il_1, il_2, il_3, il_4, il_5, il_6, il_7, il_8, il_9, il_10, il_11, il_12, il_13, il_14, il_15, il_16, il_18, il_20, il_24, il_32, il_35, il_40, il_44, il_47, il_48, il_56, il_57, il_58, il_59, il_63, il_64, il_72, il_100, il_120, il_126, il_127, il_160, il_192, il_255, il_349, il_1748, il_6992, iI_add, iI_sub, iI_mul, iI_neg, iI_le, iI_lt, iI_eq, rd_lA, wr_lA, rd_lR, wr_lR, ite_iI, max_iI, min_iI, rem_iI, div_iI, ite_true, ite_false, if_true, if_false, ite_self, and_self, and_true, true_and, and_false, false_and, or_self, or_true, true_or, or_false, false_or, not_true_eq_false, not_false_eq_true, e, d2, d3]
  · simp (disch := omega) only [↓bd_e, ↓jn_e, ↓opt_bind, ↓reduceIte, iLeT, iLeF, iLtT, iLtF, iEqT, iEqF, il_0, il_1, il_2, il_3, il_4, il_5, il_6, il_7, il_8, il_9, il_10, il_11, il_12, il_13, il_14, il_15, il_16, il_18, il_20, il_24, il_32, il_35, il_40, il_44, il_47, il_48, il_56, il_57, il_58, il_59, il_63, il_64, il_72, il_100, il_120, il_126, il_127, il_160, il_192, il_255, il_349, il_1748, il_6992, iI_add, iI_sub, iI_mul, iI_neg, iI_le, iI_lt, iI_eq, rd_lA, wr_lA, rd_lR, wr_lR, ite_iI, max_iI, min_iI, rem_iI, div_iI, ite_true, ite_false, if_true, if_false, ite_self, and_self, and_true, true_and, and_false, false_and, or_self, or_true, true_or, or_false, false_or, not_true_eq_false, not_false_eq_true, e, d2, d3]
  · simp (disch := omega) only [↓bd_e, ↓jn_e, ↓opt_bind, ↓reduceIte, iLeT, iLeF, iLtT, iLtF, iEqT, iEqF, il_0, il_1, il_2, il_3, il_4, il_5, il_6, il_7, il_8, il_9, il_10, il_11, il_12, il_13, il_14, il_15, il_16, il_18, il_20, il_24, il_32, il_35, il_40, il_44, il_47, il_48, il_56, il_57, il_58, il_59, il_63, il_64, il_72, il_100, il_120, il_126, il_127, il_160, il_192, il_255, il_349, il_1748, il_6992, iI_add, iI_sub, iI_mul, iI_neg, iI_le, iI_lt, iI_eq, rd_lA, wr_lA, rd_lR, wr_lR, ite_iI, max_iI, min_iI, rem_iI, div_iI, ite_true, ite_false, if_true, if_false, ite_self, and_self, and_true, true_and, and_false, false_and, or_self, or_true, true_or, or_false, false_or, not_true_eq_false, not_false_eq_true, e, d2, d3]
  · simp (disch := omega) only [↓bd_e, ↓jn_e, ↓opt_bind, ↓reduceIte, iLeT, iLeF, iLtT, iLtF, iEqT, iEqF, il_0, il_1, il_2, il_3, il_4, il_5, il_6, il_7, il_8, il_9, il_10, il_11, il_12, il_13, il_14, il_15, il_16, il_18, il_20, il_24, il_32, il_35, il_40, il_44, il_47, il_48, il_56, il_57, il_58, il_59, il_63, il_64, il_72, il_100, il_120, il_126, il_127, il_160, il_192, il_255, il_349, il_1748, il_6992, iI_add, iI_sub, iI_mul, iI_neg, iI_le, iI_lt, iI_eq, rd_lA, wr_lA, rd_lR, wr_lR, ite_iI, max_iI, min_iI, rem_iI, div_iI, ite_true, ite_false, if_true, if_false, ite_self, and_self, and_true, true_and, and_false, false_and, or_self, or_true, true_or, or_false, false_or, not_true_eq_false, not_false_eq_true, e, d2, d3]
def orS (V : Int → Int) (c : Nat → Int → Int) (n z : Int) : Prop := ∃ i, (0 ≤ i ∧ i < n) ∧ (0 < c 2 i ∧ c 4 i = -1) ∧ z = vKy V c i
def insP (V : Int → Int) (c : Nat → Int → Int) (n len : Int) (A : Int → Int) (i : Int) : Prop := En (len + 1) (fun k => vKy V c (A k)) (orS V c n) ∧ ∀ k, 0 ≤ k → k < len + 1 → 0 ≤ A k ∧ A k < n
theorem c_insert {V : Int → Int} {S : Nat → Nat → Int32} {c d : Nat → Int → Int} (hs : vSet V) (hr : ∀ k : Nat, k < 12 → S 5 k = iI (V (1 + k))) {i len : Int} (hi : 0 ≤ i ∧ i < 24) (hd : ∀ j, 0 ≤ j → j ≤ i → d 2 j = c 2 j ∧ d 3 j = c 3 j) (h2 : ∀ j, 0 ≤ j → j ≤ i → 0 ≤ c 2 j ∧ c 2 j ≤ 8 ∧ 0 ≤ c 3 j ∧ c 3 j ≤ 8) (ho : 0 < c 2 i ∧ c 4 i = -1)
    {L : Int → Int} (hlen : 0 ≤ len ∧ len ≤ i) (hE : En len (fun k => vKy V c (L k)) (orS V c i)) (hL : ∀ k, 0 ≤ k → k < len → 0 ≤ L k ∧ L k < i) {P : Option (Int32 × (Nat → Int32)) → Prop} {Kc : Int32 → (Nat → Int32) → Option (Int32 × (Nat → Int32))}
    (hP : ∀ p A, 0 ≤ p → p ≤ len → insP V c (i + 1) len (uI A p i) i → P (Kc (iI p) (lA A))) {n : Nat} (hn : 100 < n) : P (f_X3_lineUp_L31 S (lA (d 2)) (lA (d 3)) (iI i) Kc n (iI len) (lA L)) := by
  have hrk : ∀ j, 0 ≤ j → j ≤ i → (f_X3_rankOf S (lA (d 2)) (lA (d 3)) (iI j) = some (iI (vRk V c j)) ∧ 0 ≤ vRk V c j ∧ vRk V c j ≤ 100) := fun j j0 j1 => by
    obtain ⟨a1, a2, a3, a4⟩ := h2 j j0 j1
    exact ⟨c_rank hs hr (by omega) (hd j j0 j1) ⟨a1, a2⟩ ⟨a3, a4⟩, vRk_r ⟨a1, a2⟩ ⟨a3, a4⟩⟩
  have hri := hrk i hi.1 (Int.le_refl _)
  have hno : ¬ orS V c i (vKy V c i) := by
    rintro ⟨j, ⟨j0, j1⟩, -, j3⟩
    unfold vKy at j3
    omega
  refine lpm (fun n (u : Int × (Int → Int)) => f_X3_lineUp_L31 S (lA (d 2)) (lA (d 3)) (iI i) Kc n (iI u.1) (lA u.2)) P (fun u => (0 ≤ u.1 ∧ u.1 ≤ len) ∧ (∀ k, 0 ≤ k → k < u.1 → u.2 k = L k) ∧ (∀ k, u.1 ≤ k → k < len → u.2 (k + 1) = L k ∧ vKy V c i ≤ vKy V c (L k))) (fun u => u.1.toNat) ?_ n (len, L) (by show len.toNat < n; omega) ⟨by show 0 ≤ len ∧ len ≤ len; omega, fun k _ _ => rfl, fun k a b => by have : len ≤ k := a; omega⟩
  rintro n ⟨p, A⟩ ⟨⟨p0, p1⟩, hlow, hhigh⟩ ih
  have p0 : 0 ≤ p := p0
  have p1 : p ≤ len := p1
  have hlow : ∀ k, 0 ≤ k → k < p → A k = L k := hlow
  have hhigh : ∀ k, p ≤ k → k < len → A (k + 1) = L k ∧ vKy V c i ≤ vKy V c (L k) := hhigh
  have done : (p = 0 ∨ vKy V c (L (p - 1)) ≤ vKy V c i) → P (Kc (iI p) (lA A)) := by
    intro hd
    refine hP p A p0 p1 ⟨?_, fun k k0 k1 => ?_⟩
    · have e := En_ins (C' := fun k => vKy V c (uI A p i k)) (p := p) hE hno ⟨p0, p1⟩ (fun j j0 j1 => ?_) ?_ (fun j j0 j1 => ?_)
      · refine En_iff e (fun z => ?_)
        constructor
        · rintro (⟨j, ⟨j0, j1⟩, j2, j3⟩ | hz)
          · exact ⟨j, ⟨j0, by omega⟩, j2, j3⟩
          · exact ⟨i, ⟨hi.1, by omega⟩, ho, hz⟩
        · rintro ⟨j, ⟨j0, j1⟩, j2, j3⟩
          by_cases e : j = i
          · rw [e] at j3
            exact Or.inr j3
          · exact Or.inl ⟨j, ⟨j0, by omega⟩, j2, j3⟩
      · show vKy V c (uI A p i j) = vKy V c (L j) ∧ vKy V c (L j) ≤ vKy V c i
        rw [uI_ne (by omega), hlow j j0 j1]
        refine ⟨rfl, ?_⟩
        rcases hd with hd | hd
        · omega
        · by_cases e : j = p - 1
          · rw [e]; exact hd
          · have := hE.2.1 j (p - 1) j0 (by omega) (by omega)
            have : vKy V c (L j) < vKy V c (L (p - 1)) := this
            omega
      · show vKy V c (uI A p i p) = vKy V c i
        rw [uI_self]
      · show vKy V c (uI A p i (j + 1)) = vKy V c (L j) ∧ vKy V c i ≤ vKy V c (L j)
        rw [uI_ne (by omega), (hhigh j j0 j1).1]
        exact ⟨rfl, (hhigh j j0 j1).2⟩
    · rw [uI_at]
      split
      · omega
      · by_cases e : k < p
        · rw [hlow k k0 e]
          have := hL k k0 (by omega)
          omega
        · have := (hhigh (k - 1) (by omega) (by omega)).1
          rw [show k - 1 + 1 = k by omega] at this
          rw [this]
          have := hL (k - 1) (by omega) (by omega)
          omega
  show P (f_X3_lineUp_L31 S (lA (d 2)) (lA (d 3)) (iI i) Kc (n + 1) (iI p) (lA A))
  rw [f_X3_lineUp_L31]
  by_cases hp : p = 0
  · have := done (Or.inl hp)
    simp (disch := omega) only [↓bd_e, ↓jn_e, ↓opt_bind, ↓reduceIte, iLeT, iLeF, iLtT, iLtF, iEqT, iEqF, il_0, il_1, il_2, il_3, il_4, il_5, il_6, il_7, il_8, il_9, il_10, il_11, il_12, il_13, il_14, il_15, il_16, il_18, il_20, il_24, il_32, il_35, il_40, il_44, il_47, il_48, il_56, il_57, il_58, il_59, il_63, il_64, il_72, il_100, il_120, il_126, il_127, il_160, il_192, il_255, il_349, il_1748, il_6992, iI_add, iI_sub, iI_mul, iI_neg, iI_le, iI_lt, iI_eq, rd_lA, wr_lA, rd_lR, wr_lR, ite_iI, max_iI, min_iI, rem_iI, div_iI, ite_true, ite_false, if_true, if_false, ite_self, and_self, and_true, true_and, and_false, false_and, or_self, or_true, true_or, or_false, false_or, not_true_eq_false, not_false_eq_true]
    exact this
  · have hq := hL (p - 1) (by omega) (by omega)
    have hA := hlow (p - 1) (by omega) (by omega)
    obtain ⟨k1, k2, k3⟩ := hrk (L (p - 1)) hq.1 (by omega)
    by_cases hc : vRk V c i ≤ vRk V c (L (p - 1))
    · have := done (Or.inr (by unfold vKy; omega))
      simp (disch := omega) only [↓bd_e, ↓jn_e, ↓opt_bind, ↓reduceIte, iLeT, iLeF, iLtT, iLtF, iEqT, iEqF, il_0, il_1, il_2, il_3, il_4, il_5, il_6, il_7, il_8, il_9, il_10, il_11, il_12, il_13, il_14, il_15, il_16, il_18, il_20, il_24, il_32, il_35, il_40, il_44, il_47, il_48, il_56, il_57, il_58, il_59, il_63, il_64, il_72, il_100, il_120, il_126, il_127, il_160, il_192, il_255, il_349, il_1748, il_6992, iI_add, iI_sub, iI_mul, iI_neg, iI_le, iI_lt, iI_eq, rd_lA, wr_lA, rd_lR, wr_lR, ite_iI, max_iI, min_iI, rem_iI, div_iI, ite_true, ite_false, if_true, if_false, ite_self, and_self, and_true, true_and, and_false, false_and, or_self, or_true, true_or, or_false, false_or, not_true_eq_false, not_false_eq_true, hA, k1, hri.1]
      exact this
    · have ih := ih (p - 1, uI A p (L (p - 1))) ⟨by show 0 ≤ p - 1 ∧ p - 1 ≤ len; omega, fun k k0 k1 => by
          have k1 : k < p - 1 := k1
          show uI A p (L (p - 1)) k = L k
          rw [uI_ne (by omega)]
          exact hlow k k0 (by omega), fun k k0 k1 => by
          have k0 : p - 1 ≤ k := k0
          show uI A p (L (p - 1)) (k + 1) = L k ∧ _
          by_cases e : k = p - 1
          · rw [e, show p - 1 + 1 = p by omega, uI_self]
            exact ⟨rfl, by unfold vKy; omega⟩
          · rw [uI_ne (by omega)]
            exact hhigh k (by omega) k1⟩ (by show (p - 1).toNat < p.toNat; omega)
      have ih : P (f_X3_lineUp_L31 S (lA (d 2)) (lA (d 3)) (iI i) Kc n (iI (p - 1)) (lA (uI A p (L (p - 1))))) := ih
      simp (disch := omega) only [↓bd_e, ↓jn_e, ↓opt_bind, ↓reduceIte, iLeT, iLeF, iLtT, iLtF, iEqT, iEqF, il_0, il_1, il_2, il_3, il_4, il_5, il_6, il_7, il_8, il_9, il_10, il_11, il_12, il_13, il_14, il_15, il_16, il_18, il_20, il_24, il_32, il_35, il_40, il_44, il_47, il_48, il_56, il_57, il_58, il_59, il_63, il_64, il_72, il_100, il_120, il_126, il_127, il_160, il_192, il_255, il_349, il_1748, il_6992, iI_add, iI_sub, iI_mul, iI_neg, iI_le, iI_lt, iI_eq, rd_lA, wr_lA, rd_lR, wr_lR, ite_iI, max_iI, min_iI, rem_iI, div_iI, ite_true, ite_false, if_true, if_false, ite_self, and_self, and_true, true_and, and_false, false_and, or_self, or_true, true_or, or_false, false_or, not_true_eq_false, not_false_eq_true, hA, k1, hri.1]
      rw [show p + -1 = p - 1 by omega]
      exact ih
