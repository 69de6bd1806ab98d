def catR (V : Int → Int) (c : Nat → Int → Int) : Prop := ∀ j, 0 ≤ j → j < V 0 → (0 ≤ c 2 j ∧ c 2 j ≤ 8 ∧ 0 ≤ c 3 j ∧ c 3 j ≤ 8) ∧ (-1 ≤ c 4 j ∧ c 4 j < 24)
theorem cat_r {V : Int → Int} {c : Nat → Int → Int} (hi : vImg V) (hc : vCat V c) : catR V c := by
  intro j j0 j1
  obtain ⟨t, o⟩ := hc j j0 j1
  have h1 := hi.1
  have h2 := hi.2.1 j j0 j1
  refine ⟨?_, ?_⟩
  · rcases t with ⟨a, b, -⟩ | ⟨⟨a1, a2, a3, a4, a5, a6⟩, -⟩
    · omega
    · omega
  · rcases o with ⟨-, ⟨o1, o2, -⟩, -⟩ | ⟨o1, -⟩
    · omega
    · omega
theorem c_lineUp {V : Int → Int} {S : Nat → Nat → Int32} {c d : Nat → Int → Int} (hs : vSet V) (hi : vImg V) (h0 : S 0 0 = iI (V 0)) (hr : ∀ k : Nat, k < 12 → S 5 k = iI (V (1 + k))) (hd : ∀ j, 0 ≤ j → j < V 0 → d 2 j = c 2 j ∧ d 3 j = c 3 j ∧ d 4 j = or4 (c 4 j) (c 4 j)) (hc : catR V c) (line : Nat → Int32) :
    ∃ len L, f_X3_lineUp line S (lA (d 2)) (lA (d 3)) (lA (d 4)) = some (iI len, lA L) ∧ En len (fun k => vKy V c (L k)) (orS V c (V 0)) ∧ (0 ≤ len ∧ len ≤ V 0) ∧ ∀ k, 0 ≤ k → k < len → 0 ≤ L k ∧ L k < V 0 := by
  have hn := hi.1
  unfold f_X3_lineUp
  obtain ⟨fu, hfu, hfu2⟩ := fuel_ex; rw [hfu]
  rw [lA_of line, il_0]
  refine lp (fun n x (u : Int × (Int → Int)) => f_X3_lineUp_L4 S (lA (d 2)) (lA (d 3)) (lA (d 4)) n (iI u.1) (iI x) (lA u.2)) (fun r => ∃ len L, r = some (iI len, lA L) ∧ En len (fun k => vKy V c (L k)) (orS V c (V 0)) ∧ (0 ≤ len ∧ len ≤ V 0) ∧ ∀ k, 0 ≤ k → k < len → 0 ≤ L k ∧ L k < V 0) (V 0) (fun x u => 0 ≤ x ∧ En u.1 (fun k => vKy V c (u.2 k)) (orS V c x) ∧ (0 ≤ u.1 ∧ u.1 ≤ x) ∧ ∀ k, 0 ≤ k → k < u.1 → 0 ≤ u.2 k ∧ u.2 k < x) ?_ ?_ fu 0 (0, fun z => (line z.toNat).toInt) (by omega) (by omega) ⟨by omega, En_0 (fun z ⟨j, h, _⟩ => by omega), ⟨Int.le_refl _, Int.le_refl _⟩, fun k k0 k1 => by have : k < 0 := k1; omega⟩
  · rintro n ⟨len, L⟩ ⟨-, h1, h2, h3⟩
    refine ⟨len, L, ?_, h1, h2, h3⟩
    show f_X3_lineUp_L4 S _ _ _ (n + 1) (iI len) (iI (V 0)) (lA L) = _
    rw [f_X3_lineUp_L4, h0]
    simp (disch := omega) only [↓bd_e, ↓jn_e, ↓opt_bind, ↓reduceIte, iLeT, iLeF, iLtT, iLtF, iEqT, iEqF, il_0, il_1, il_2, il_3, il_4, il_5, il_6, il_7, il_8, il_9, il_10, il_11, il_12, il_13, il_14, il_15, il_16, il_18, il_20, il_24, il_32, il_35, il_40, il_44, il_47, il_48, il_56, il_57, il_58, il_59, il_63, il_64, il_72, il_100, il_120, il_126, il_127, il_160, il_192, il_255, il_349, il_1748, il_6992, iI_add, iI_sub, iI_mul, iI_neg, iI_le, iI_lt, iI_eq, rd_lA, wr_lA, rd_lR, wr_lR, ite_iI, max_iI, min_iI, rem_iI, div_iI, ite_true, ite_false, if_true, if_false, ite_self, and_self, and_true, true_and, and_false, false_and, or_self, or_true, true_or, or_false, false_or, not_true_eq_false, not_false_eq_true]
  · rintro n x ⟨len, L⟩ hx ⟨x0, h1, h2, h3⟩ ih
    have h1 : En len (fun k => vKy V c (L k)) (orS V c x) := h1
    have h2 : 0 ≤ len ∧ len ≤ x := h2
    have h3 : ∀ k, 0 ≤ k → k < len → 0 ≤ L k ∧ L k < x := h3
    obtain ⟨⟨c1, c2, c3, c4⟩, c5⟩ := hc x x0 hx
    have ho := c_isOriginal (c := c) (d := d) (j := x) (by omega) ⟨c1, c2⟩ (hd x x0 hx).1 (hd x x0 hx).2.2 c5
    show ∃ len' L', f_X3_lineUp_L4 S _ _ _ (n + 1) (iI len) (iI x) (lA L) = _ ∧ _
    rw [f_X3_lineUp_L4, h0, ho]
    by_cases hor : 0 < c 2 x ∧ c 4 x = -1
    · simp (disch := omega) only [↓bd_e, ↓jn_e, ↓opt_bind, ↓reduceIte, iLeT, iLeF, iLtT, iLtF, iEqT, iEqF, il_0, il_1, il_2, il_3, il_4, il_5, il_6, il_7, il_8, il_9, il_10, il_11, il_12, il_13, il_14, il_15, il_16, il_18, il_20, il_24, il_32, il_35, il_40, il_44, il_47, il_48, il_56, il_57, il_58, il_59, il_63, il_64, il_72, il_100, il_120, il_126, il_127, il_160, il_192, il_255, il_349, il_1748, il_6992, iI_add, iI_sub, iI_mul, iI_neg, iI_le, iI_lt, iI_eq, rd_lA, wr_lA, rd_lR, wr_lR, ite_iI, max_iI, min_iI, rem_iI, div_iI, ite_true, ite_false, if_true, if_false, ite_self, and_self, and_true, true_and, and_false, false_and, or_self, or_true, true_or, or_false, false_or, not_true_eq_false, not_false_eq_true, if_pos hor, hfu]
      refine c_insert (P := fun r => ∃ len L, r = some (iI len, lA L) ∧ En len (fun k => vKy V c (L k)) (orS V c (V 0)) ∧ (0 ≤ len ∧ len ≤ V 0) ∧ ∀ k, 0 ≤ k → k < len → 0 ≤ L k ∧ L k < V 0) hs hr (by omega) (fun j j0 j1 => ⟨(hd j j0 (by omega)).1, (hd j j0 (by omega)).2.1⟩) (fun j j0 j1 => (hc j j0 (by omega)).1) hor h2 h1 h3 ?_ (by omega)
      intro p A p0 p1 hI
      have ih := ih (len + 1, uI A p x) ⟨by omega, hI.1, by show 0 ≤ len + 1 ∧ len + 1 ≤ x + 1; omega, hI.2⟩
      simp (disch := omega) only [↓bd_e, ↓jn_e, ↓opt_bind, ↓reduceIte, iLeT, iLeF, iLtT, iLtF, iEqT, iEqF, il_0, il_1, il_2, il_3, il_4, il_5, il_6, il_7, il_8, il_9, il_10, il_11, il_12, il_13, il_14, il_15, il_16, il_18, il_20, il_24, il_32, il_35, il_40, il_44, il_47, il_48, il_56, il_57, il_58, il_59, il_63, il_64, il_72, il_100, il_120, il_126, il_127, il_160, il_192, il_255, il_349, il_1748, il_6992, iI_add, iI_sub, iI_mul, iI_neg, iI_le, iI_lt, iI_eq, rd_lA, wr_lA, rd_lR, wr_lR, ite_iI, max_iI, min_iI, rem_iI, div_iI, ite_true, ite_false, if_true, if_false, ite_self, and_self, and_true, true_and, and_false, false_and, or_self, or_true, true_or, or_false, false_or, not_true_eq_false, not_false_eq_true]
      exact ih
    · have ih := ih (len, L) ⟨by omega, En_iff h1 (fun z => by
        constructor
        · rintro ⟨j, ⟨j0, j1⟩, j2, j3⟩
          exact ⟨j, ⟨j0, by omega⟩, j2, j3⟩
        · rintro ⟨j, ⟨j0, j1⟩, j2, j3⟩
          refine ⟨j, ⟨j0, ?_⟩, j2, j3⟩
          have : j ≠ x := fun e => hor (e ▸ j2)
          omega), by show 0 ≤ len ∧ len ≤ x + 1; omega, fun k k0 k1 => by have := h3 k k0 k1; show 0 ≤ L k ∧ L k < x + 1; omega⟩
      simp (disch := omega) only [↓bd_e, ↓jn_e, ↓opt_bind, ↓reduceIte, iLeT, iLeF, iLtT, iLtF, iEqT, iEqF, il_0, il_1, il_2, il_3, il_4, il_5, il_6, il_7, il_8, il_9, il_10, il_11, il_12, il_13, il_14, il_15, il_16, il_18, il_20, il_24, il_32, il_35, il_40, il_44, il_47, il_48, il_56, il_57, il_58, il_59, il_63, il_64, il_72, il_100, il_120, il_126, il_127, il_160, il_192, il_255, il_349, il_1748, il_6992, iI_add, iI_sub, iI_mul, iI_neg, iI_le, iI_lt, iI_eq, rd_lA, wr_lA, rd_lR, wr_lR, ite_iI, max_iI, min_iI, rem_iI, div_iI, ite_true, ite_false, if_true, if_false, ite_self, and_self, and_true, true_and, and_false, false_and, or_self, or_true, true_or, or_false, false_or, not_true_eq_false, not_false_eq_true, if_neg hor]
      exact ih
theorem first_core {x2 x3 : Int} (h2 : -1000 ≤ x2 ∧ x2 ≤ 1000) (h3 : -1000 ≤ x3 ∧ x3 ≤ 1000) : (if iI 0 < iI x2 then some (iI 1) else if iI x2 = iI 0 then (if iI x3 < iI 0 then some (iI 0) else some (iI 1)) else some (iI 0)) = some (iI (if 0 < x2 ∨ (x2 = 0 ∧ 0 ≤ x3) then 1 else 0)) := by
  by_cases a : 0 < x2
  · rw [if_pos (Or.inl a)]
    simp (disch := omega) only [↓bd_e, ↓jn_e, ↓opt_bind, ↓reduceIte, iLeT, iLeF, iLtT, iLtF, iEqT, iEqF, il_0, il_1, il_2, il_3, il_4, il_5, il_6, il_7, il_8, il_9, il_10, il_11, il_12, il_13, il_14, il_15, il_16, il_18, il_20, il_24, il_32, il_35, il_40, il_44, il_47, il_48, il_56, il_57, il_58, il_59, il_63, il_64, il_72, il_100, il_120, il_126, il_127, il_160, il_192, il_255, il_349, il_1748, il_6992, iI_add, iI_sub, iI_mul, iI_neg, iI_le, iI_lt, iI_eq, rd_lA, wr_lA, rd_lR, wr_lR, ite_iI, max_iI, min_iI, rem_iI, div_iI, ite_true, ite_false, if_true, if_false, ite_self, and_self, and_true, true_and, and_false, false_and, or_self, or_true, true_or, or_false, false_or, not_true_eq_false, not_false_eq_true]
  · by_cases b : x2 = 0
    · by_cases e : x3 < 0
      · rw [if_neg (by omega : ¬ (0 < x2 ∨ (x2 = 0 ∧ 0 ≤ x3)))]
        simp (disch := omega) only [↓bd_e, ↓jn_e, ↓opt_bind, ↓reduceIte, iLeT, iLeF, iLtT, iLtF, iEqT, iEqF, il_0, il_1, il_2, il_3, il_4, il_5, il_6, il_7, il_8, il_9, il_10, il_11, il_12, il_13, il_14, il_15, il_16, il_18, il_20, il_24, il_32, il_35, il_40, il_44, il_47, il_48, il_56, il_57, il_58, il_59, il_63, il_64, il_72, il_100, il_120, il_126, il_127, il_160, il_192, il_255, il_349, il_1748, il_6992, iI_add, iI_sub, iI_mul, iI_neg, iI_le, iI_lt, iI_eq, rd_lA, wr_lA, rd_lR, wr_lR, ite_iI, max_iI, min_iI, rem_iI, div_iI, ite_true, ite_false, if_true, if_false, ite_self, and_self, and_true, true_and, and_false, false_and, or_self, or_true, true_or, or_false, false_or, not_true_eq_false, not_false_eq_true]
      · rw [if_pos (by omega : (0 < x2 ∨ (x2 = 0 ∧ 0 ≤ x3)))]
        simp (disch := omega) only [↓bd_e, ↓jn_e, ↓opt_bind, ↓reduceIte, iLeT, iLeF, iLtT, iLtF, iEqT, iEqF, il_0, il_1, il_2, il_3, il_4, il_5, il_6, il_7, il_8, il_9, il_10, il_11, il_12, il_13, il_14, il_15, il_16, il_18, il_20, il_24, il_32, il_35, il_40, il_44, il_47, il_48, il_56, il_57, il_58, il_59, il_63, il_64, il_72, il_100, il_120, il_126, il_127, il_160, il_192, il_255, il_349, il_1748, il_6992, iI_add, iI_sub, iI_mul, iI_neg, iI_le, iI_lt, iI_eq, rd_lA, wr_lA, rd_lR, wr_lR, ite_iI, max_iI, min_iI, rem_iI, div_iI, ite_true, ite_false, if_true, if_false, ite_self, and_self, and_true, true_and, and_false, false_and, or_self, or_true, true_or, or_false, false_or, not_true_eq_false, not_false_eq_true]
    · rw [if_neg (by omega : ¬ (0 < x2 ∨ (x2 = 0 ∧ 0 ≤ x3)))]
      simp (disch := omega) only [↓bd_e, ↓jn_e, ↓opt_bind, ↓reduceIte, iLeT, iLeF, iLtT, iLtF, iEqT, iEqF, il_0, il_1, il_2, il_3, il_4, il_5, il_6, il_7, il_8, il_9, il_10, il_11, il_12, il_13, il_14, il_15, il_16, il_18, il_20, il_24, il_32, il_35, il_40, il_44, il_47, il_48, il_56, il_57, il_58, il_59, il_63, il_64, il_72, il_100, il_120, il_126, il_127, il_160, il_192, il_255, il_349, il_1748, il_6992, iI_add, iI_sub, iI_mul, iI_neg, iI_le, iI_lt, iI_eq, rd_lA, wr_lA, rd_lR, wr_lR, ite_iI, max_iI, min_iI, rem_iI, div_iI, ite_true, ite_false, if_true, if_false, ite_self, and_self, and_true, true_and, and_false, false_and, or_self, or_true, true_or, or_false, false_or, not_true_eq_false, not_false_eq_true]
theorem m_isFirst {V : Int → Int} {c : Nat → Int → Int} (hs : vSet V) {a b : Int} (ha : 0 ≤ a ∧ a < 24) (hb : 0 ≤ b ∧ b < 24) (h2 : 0 ≤ c 2 a ∧ c 2 a ≤ 8) (h3 : 0 ≤ c 3 a ∧ c 3 a ≤ 8) (g2 : 0 ≤ c 2 b ∧ c 2 b ≤ 8) (g3 : 0 ≤ c 3 b ∧ c 3 b ≤ 8) : f_X11_isFirst (lA V) (lA (c 2)) (lA (c 3)) (iI a) (iI b) = some (iI (if vRk V c b ≤ vRk V c a then 1 else 0)) := by
  have h11 : V 11 = 0 ∨ V 11 = 1 ∨ V 11 = 2 ∨ V 11 = 3 := by unfold vSet at hs; omega
  have m1 : 0 ≤ c 2 a * c 3 a ∧ c 2 a * c 3 a ≤ 8 * 8 := ⟨Int.mul_nonneg h2.1 h3.1, Int.mul_le_mul h2.2 h3.2 h3.1 (by omega)⟩
  have m2 : 0 ≤ c 2 b * c 3 b ∧ c 2 b * c 3 b ≤ 8 * 8 := ⟨Int.mul_nonneg g2.1 g3.1, Int.mul_le_mul g2.2 g3.2 g3.1 (by omega)⟩
  have fin : ∀ x2 x3 : Int, -1000 ≤ x2 → x2 ≤ 1000 → -1000 ≤ x3 → x3 ≤ 1000 → (vRk V c b ≤ vRk V c a ↔ (0 < x2 ∨ (x2 = 0 ∧ 0 ≤ x3))) → (if iI 0 < iI x2 then some (iI 1) else if iI x2 = iI 0 then (if iI x3 < iI 0 then some (iI 0) else some (iI 1)) else some (iI 0)) = some (iI (if vRk V c b ≤ vRk V c a then 1 else 0)) := by
    intro x2 x3 a1 a2 a3 a4 h
    rw [first_core ⟨a1, a2⟩ ⟨a3, a4⟩]
    simp only [h]
  unfold f_X11_isFirst
  rw [il_11, rd_lA V _ (by omega) (by omega) (by omega)]
  simp only [↓jn_e, il_0, il_1, il_2, il_3]
  rcases h11 with e | e | e | e
  · rw [if_neg (by rw [e]; decide +kernel), rd_lA V _ (by omega) (by omega) (by omega), if_neg (by rw [e]; decide +kernel), rd_lA V _ (by omega) (by omega) (by omega), if_neg (by rw [e]; decide +kernel)]
    refine fin 0 0 (by omega) (by omega) (by omega) (by omega) ?_
    unfold vRk
    simp (disch := omega) only [↓bd_e, ↓jn_e, ↓opt_bind, ↓reduceIte, iLeT, iLeF, iLtT, iLtF, iEqT, iEqF, il_0, il_1, il_2, il_3, il_4, il_5, il_6, il_7, il_8, il_9, il_10, il_11, il_12, il_13, il_14, il_15, il_16, il_18, il_20, il_24, il_32, il_35, il_40, il_44, il_47, il_48, il_56, il_57, il_58, il_59, il_63, il_64, il_72, il_100, il_120, il_126, il_127, il_160, il_192, il_255, il_349, il_1748, il_6992, iI_add, iI_sub, iI_mul, iI_neg, iI_le, iI_lt, iI_eq, rd_lA, wr_lA, rd_lR, wr_lR, ite_iI, max_iI, min_iI, rem_iI, div_iI, ite_true, ite_false, if_true, if_false, ite_self, and_self, and_true, true_and, and_false, false_and, or_self, or_true, true_or, or_false, false_or, not_true_eq_false, not_false_eq_true, e]
  · rw [if_pos (by rw [e])]
    simp (disch := omega) only [rd_lA, bd_e, iI_mul, iI_sub]
    refine fin _ 0 (by omega) (by omega) (by omega) (by omega) ?_
    unfold vRk
    simp (disch := omega) only [↓bd_e, ↓jn_e, ↓opt_bind, ↓reduceIte, iLeT, iLeF, iLtT, iLtF, iEqT, iEqF, il_0, il_1, il_2, il_3, il_4, il_5, il_6, il_7, il_8, il_9, il_10, il_11, il_12, il_13, il_14, il_15, il_16, il_18, il_20, il_24, il_32, il_35, il_40, il_44, il_47, il_48, il_56, il_57, il_58, il_59, il_63, il_64, il_72, il_100, il_120, il_126, il_127, il_160, il_192, il_255, il_349, il_1748, il_6992, iI_add, iI_sub, iI_mul, iI_neg, iI_le, iI_lt, iI_eq, rd_lA, wr_lA, rd_lR, wr_lR, ite_iI, max_iI, min_iI, rem_iI, div_iI, ite_true, ite_false, if_true, if_false, ite_self, and_self, and_true, true_and, and_false, false_and, or_self, or_true, true_or, or_false, false_or, not_true_eq_false, not_false_eq_true, e]
    omega
  · rw [if_neg (by rw [e]; decide +kernel), rd_lA V _ (by omega) (by omega) (by omega), if_pos (by rw [e])]
    have hmax : ∀ x y : Int, (if x ≤ y then y else x) = max x y := fun x y => by split <;> omega
    by_cases e1 : c 2 a ≤ c 3 a
    · by_cases e2 : c 2 b ≤ c 3 b
      · simp (disch := omega) only [rd_lA, bd_e, jn_e, iI_add, iI_sub, iI_le, iLeT, if_true]
        refine fin _ _ (by omega) (by omega) (by omega) (by omega) ?_
        unfold vRk
        simp (disch := omega) only [↓bd_e, ↓jn_e, ↓opt_bind, ↓reduceIte, iLeT, iLeF, iLtT, iLtF, iEqT, iEqF, il_0, il_1, il_2, il_3, il_4, il_5, il_6, il_7, il_8, il_9, il_10, il_11, il_12, il_13, il_14, il_15, il_16, il_18, il_20, il_24, il_32, il_35, il_40, il_44, il_47, il_48, il_56, il_57, il_58, il_59, il_63, il_64, il_72, il_100, il_120, il_126, il_127, il_160, il_192, il_255, il_349, il_1748, il_6992, iI_add, iI_sub, iI_mul, iI_neg, iI_le, iI_lt, iI_eq, rd_lA, wr_lA, rd_lR, wr_lR, ite_iI, max_iI, min_iI, rem_iI, div_iI, ite_true, ite_false, if_true, if_false, ite_self, and_self, and_true, true_and, and_false, false_and, or_self, or_true, true_or, or_false, false_or, not_true_eq_false, not_false_eq_true, e]
        omega
      · simp (disch := omega) only [rd_lA, bd_e, jn_e, iI_add, iI_sub, iI_le, iLeT, iLeF, if_true, if_false]
        refine fin _ _ (by omega) (by omega) (by omega) (by omega) ?_
        unfold vRk
        simp (disch := omega) only [↓bd_e, ↓jn_e, ↓opt_bind, ↓reduceIte, iLeT, iLeF, iLtT, iLtF, iEqT, iEqF, il_0, il_1, il_2, il_3, il_4, il_5, il_6, il_7, il_8, il_9, il_10, il_11, il_12, il_13, il_14, il_15, il_16, il_18, il_20, il_24, il_32, il_35, il_40, il_44, il_47, il_48, il_56, il_57, il_58, il_59, il_63, il_64, il_72, il_100, il_120, il_126, il_127, il_160, il_192, il_255, il_349, il_1748, il_6992, iI_add, iI_sub, iI_mul, iI_neg, iI_le, iI_lt, iI_eq, rd_lA, wr_lA, rd_lR, wr_lR, ite_iI, max_iI, min_iI, rem_iI, div_iI, ite_true, ite_false, if_true, if_false, ite_self, and_self, and_true, true_and, and_false, false_and, or_self, or_true, true_or, or_false, false_or, not_true_eq_false, not_false_eq_true, e]
        omega
    · by_cases e2 : c 2 b ≤ c 3 b
      · simp (disch := omega) only [rd_lA, bd_e, jn_e, iI_add, iI_sub, iI_le, iLeT, iLeF, if_true, if_false]
        refine fin _ _ (by omega) (by omega) (by omega) (by omega) ?_
        unfold vRk
        simp (disch := omega) only [↓bd_e, ↓jn_e, ↓opt_bind, ↓reduceIte, iLeT, iLeF, iLtT, iLtF, iEqT, iEqF, il_0, il_1, il_2, il_3, il_4, il_5, il_6, il_7, il_8, il_9, il_10, il_11, il_12, il_13, il_14, il_15, il_16, il_18, il_20, il_24, il_32, il_35, il_40, il_44, il_47, il_48, il_56, il_57, il_58, il_59, il_63, il_64, il_72, il_100, il_120, il_126, il_127, il_160, il_192, il_255, il_349, il_1748, il_6992, iI_add, iI_sub, iI_mul, iI_neg, iI_le, iI_lt, iI_eq, rd_lA, wr_lA, rd_lR, wr_lR, ite_iI, max_iI, min_iI, rem_iI, div_iI, ite_true, ite_false, if_true, if_false, ite_self, and_self, and_true, true_and, and_false, false_and, or_self, or_true, true_or, or_false, false_or, not_true_eq_false, not_false_eq_true, e]
        omega
      · simp (disch := omega) only [rd_lA, bd_e, jn_e, iI_add, iI_sub, iI_le, iLeF, if_false]
        refine fin _ _ (by omega) (by omega) (by omega) (by omega) ?_
        unfold vRk
        simp (disch := omega) only [↓bd_e, ↓jn_e, ↓opt_bind, ↓reduceIte, iLeT, iLeF, iLtT, iLtF, iEqT, iEqF, il_0, il_1, il_2, il_3, il_4, il_5, il_6, il_7, il_8, il_9, il_10, il_11, il_12, il_13, il_14, il_15, il_16, il_18, il_20, il_24, il_32, il_35, il_40, il_44, il_47, il_48, il_56, il_57, il_58, il_59, il_63, il_64, il_72, il_100, il_120, il_126, il_127, il_160, il_192, il_255, il_349, il_1748, il_6992, iI_add, iI_sub, iI_mul, iI_neg, iI_le, iI_lt, iI_eq, rd_lA, wr_lA, rd_lR, wr_lR, ite_iI, max_iI, min_iI, rem_iI, div_iI, ite_true, ite_false, if_true, if_false, ite_self, and_self, and_true, true_and, and_false, false_and, or_self, or_true, true_or, or_false, false_or, not_true_eq_false, not_false_eq_true, e]
        omega
  · rw [if_neg (by rw [e]; decide +kernel), rd_lA V _ (by omega) (by omega) (by omega), if_neg (by rw [e]; decide +kernel), rd_lA V _ (by omega) (by omega) (by omega), if_pos (by rw [e])]
    simp (disch := omega) only [rd_lA, bd_e, iI_sub]
    refine fin _ _ (by omega) (by omega) (by omega) (by omega) ?_
    unfold vRk
    simp (disch := omega) only [↓bd_e, ↓jn_e, ↓opt_bind, ↓reduceIte, iLeT, iLeF, iLtT, iLtF, iEqT, iEqF, il_0, il_1, il_2, il_3, il_4, il_5, il_6, il_7, il_8, il_9, il_10, il_11, il_12, il_13, il_14, il_15, il_16, il_18, il_20, il_24, il_32, il_35, il_40, il_44, il_47, il_48, il_56, il_57, il_58, il_59, il_63, il_64, il_72, il_100, il_120, il_126, il_127, il_160, il_192, il_255, il_349, il_1748, il_6992, iI_add, iI_sub, iI_mul, iI_neg, iI_le, iI_lt, iI_eq, rd_lA, wr_lA, rd_lR, wr_lR, ite_iI, max_iI, min_iI, rem_iI, div_iI, ite_true, ite_false, if_true, if_false, ite_self, and_self, and_true, true_and, and_false, false_and, or_self, or_true, true_or, or_false, false_or, not_true_eq_false, not_false_eq_true, e]
    omega
