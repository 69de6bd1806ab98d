/-! the class's free rectangles -/
theorem En_more {n z : Int} {C : Int → Int} {S : Int → Prop} (h : En n C S) (hz : ¬ S z) : ∃ C', En (n + 1) C' (fun q => S q ∨ q = z) := by
  have key : ∀ m : Nat, (m : Int) ≤ n → ∃ p : Int, 0 ≤ p ∧ p ≤ (m : Int) ∧ (∀ j, 0 ≤ j → j < p → C j ≤ z) ∧ ∀ j : Int, p ≤ j → j < (m : Int) → z ≤ C j := by
    intro m
    induction m with
    | zero => exact fun _ => ⟨0, by omega, by omega, fun j _ _ => by omega, fun j _ _ => by omega⟩
    | succ m ih =>
      intro hm
      obtain ⟨p, p0, p1, p2, p3⟩ := ih (by omega)
      by_cases e : p = m ∧ C m ≤ z
      · refine ⟨p + 1, by omega, by omega, fun j j0 j1 => ?_, fun j j0 j1 => by omega⟩
        by_cases e2 : j = m
        · rw [e2]; exact e.2
        · exact p2 j j0 (by omega)
      · refine ⟨p, p0, by omega, p2, fun j j0 j1 => ?_⟩
        by_cases e2 : j = m
        · subst e2
          by_cases e3 : p = m
          · have := fun h => e ⟨e3, h⟩
            omega
          · have h1 := p3 (m - 1) (by omega) (by omega)
            have h2 := h.2.1 (m - 1) m (by omega) (by omega) (by omega)
            omega
        · exact p3 j j0 (by omega)
  obtain ⟨p, p0, p1, p2, p3⟩ := key n.toNat (by have := h.1; omega)
  have h0 := h.1
  refine ⟨fun k => if k < p then C k else if k = p then z else C (k - 1), En_ins h hz ⟨p0, by omega⟩ (fun j j0 j1 => ⟨if_pos j1, p2 j j0 j1⟩) ?_ (fun j j0 j1 => ⟨?_, p3 j j0 (by omega)⟩)⟩
  · rw [if_neg (by omega), if_pos rfl]
  · rw [if_neg (by omega), if_neg (by omega)]
    congr 1
    omega
theorem c_addSorted {p z n : Int} {K N : Int → Int} {S : Int → Prop} (hp : 0 ≤ p ∧ p < 4) (hn : N p = n) (h : En n (fun k => K (p * 349 + k)) S) (hz : ¬ S z) (hn9 : n < 349) (hzr : 0 ≤ z ∧ z < 100000000) (hSr : ∀ q, S q → 0 ≤ q ∧ q < 100000000) :
    ∃ K', f_X7_addSorted (lA K) (lA N) (iI p) (iI z) = some (lA K', lA (uI N p (n + 1))) ∧ En (n + 1) (fun k => K' (p * 349 + k)) (fun q => S q ∨ q = z) ∧ ∀ j, (j < p * 349 ∨ p * 349 + 349 ≤ j) → K' j = K j := by
  have n0 := h.1
  unfold f_X7_addSorted
  obtain ⟨fu, hfu, hfu2⟩ := fuel_ex; rw [hfu]
  simp (disch := omega) only [↓bd_e, ↓jn_e, ↓opt_bind, ↓reduceIte, iLeT, iLeF, iLtT, iLtF, iEqT, iEqF, il_0, il_1, il_2, il_3, il_4, il_5, il_6, il_7, il_8, il_9, il_10, il_11, il_12, il_13, il_14, il_15, il_16, il_18, il_20, il_24, il_32, il_35, il_40, il_44, il_47, il_48, il_56, il_57, il_58, il_59, il_63, il_64, il_72, il_100, il_120, il_126, il_127, il_160, il_192, il_255, il_349, il_1748, il_6992, iI_add, iI_sub, iI_mul, iI_neg, iI_le, iI_lt, iI_eq, rd_lA, wr_lA, rd_lR, wr_lR, ite_iI, max_iI, min_iI, rem_iI, div_iI, ite_true, ite_false, if_true, if_false, ite_self, and_self, and_true, true_and, and_false, false_and, or_self, or_true, true_or, or_false, false_or, not_true_eq_false, not_false_eq_true, hn]
  have key : ∃ K', f_X7_addSorted_L23 (iI z) (iI (p * 349)) (fun x3 f4 => g_wr f4 1396 (iI (p * 349) + x3) (iI z) fun f6 => some (f6, lA (uI N p (n + 1)))) fu (iI (n - 0)) (lA K) = some (lA K', lA (uI N p (n + 1))) ∧ En (n + 1) (fun k => K' (p * 349 + k)) (fun q => S q ∨ q = z) ∧ ∀ j, (j < p * 349 ∨ p * 349 + 349 ≤ j) → K' j = K j := by
    refine lp (fun m i (A : Int → Int) => f_X7_addSorted_L23 (iI z) (iI (p * 349)) _ m (iI (n - i)) (lA A)) (fun r => ∃ K', r = some (lA K', lA (uI N p (n + 1))) ∧ En (n + 1) (fun k => K' (p * 349 + k)) (fun q => S q ∨ q = z) ∧ ∀ j, (j < p * 349 ∨ p * 349 + 349 ≤ j) → K' j = K j) n
      (fun i A => 0 ≤ i ∧ (∀ j, j < p * 349 + (n - i) → A j = K j) ∧ (∀ j, n - i ≤ j → j < n → A (p * 349 + (j + 1)) = K (p * 349 + j) ∧ z ≤ K (p * 349 + j)) ∧ (∀ j, p * 349 + 349 ≤ j → A j = K j)) ?_ ?_ fu 0 K (by omega) (by omega) ⟨by omega, fun j _ => rfl, fun j _ _ => by omega, fun j _ => rfl⟩
    · rintro m A ⟨-, h1, h2, h3⟩
      rw [show n - n = 0 by omega] at h1 h2 ⊢
      unfold f_X7_addSorted_L23
      simp (disch := omega) only [↓bd_e, ↓jn_e, ↓opt_bind, ↓reduceIte, iLeT, iLeF, iLtT, iLtF, iEqT, iEqF, il_0, il_1, il_2, il_3, il_4, il_5, il_6, il_7, il_8, il_9, il_10, il_11, il_12, il_13, il_14, il_15, il_16, il_18, il_20, il_24, il_32, il_35, il_40, il_44, il_47, il_48, il_56, il_57, il_58, il_59, il_63, il_64, il_72, il_100, il_120, il_126, il_127, il_160, il_192, il_255, il_349, il_1748, il_6992, iI_add, iI_sub, iI_mul, iI_neg, iI_le, iI_lt, iI_eq, rd_lA, wr_lA, rd_lR, wr_lR, ite_iI, max_iI, min_iI, rem_iI, div_iI, ite_true, ite_false, if_true, if_false, ite_self, and_self, and_true, true_and, and_false, false_and, or_self, or_true, true_or, or_false, false_or, not_true_eq_false, not_false_eq_true]
      refine ⟨_, rfl, En_ins h hz ⟨Int.le_refl 0, n0⟩ (fun j j0 j1 => by omega) (uI_self _ _ _) (fun j j0 j1 => ?_), fun j hj => ?_⟩
      · rw [uI_ne (by omega)]
        exact h2 j j0 j1
      · rw [uI_ne (by omega)]
        rcases hj with hj | hj
        · exact h1 j (by omega)
        · exact h3 j hj
    · rintro m i A hi ⟨hi0, h1, h2, h3⟩ ih
      have hA := h1 (p * 349 + (n - i) - 1) (by omega)
      have hSk := hSr _ (h.2.2.1 (n - i - 1) (by omega) (by omega))
      dsimp only at hSk
      rw [show p * 349 + (n - i - 1) = p * 349 + (n - i) - 1 by omega] at hSk
      have e1 : n - i + -1 = n - (i + 1) := by omega
      unfold f_X7_addSorted_L23
      by_cases hc : K (p * 349 + (n - i) - 1) ≤ z
      · simp (disch := omega) only [↓bd_e, ↓jn_e, ↓opt_bind, ↓reduceIte, iLeT, iLeF, iLtT, iLtF, iEqT, iEqF, il_0, il_1, il_2, il_3, il_4, il_5, il_6, il_7, il_8, il_9, il_10, il_11, il_12, il_13, il_14, il_15, il_16, il_18, il_20, il_24, il_32, il_35, il_40, il_44, il_47, il_48, il_56, il_57, il_58, il_59, il_63, il_64, il_72, il_100, il_120, il_126, il_127, il_160, il_192, il_255, il_349, il_1748, il_6992, iI_add, iI_sub, iI_mul, iI_neg, iI_le, iI_lt, iI_eq, rd_lA, wr_lA, rd_lR, wr_lR, ite_iI, max_iI, min_iI, rem_iI, div_iI, ite_true, ite_false, if_true, if_false, ite_self, and_self, and_true, true_and, and_false, false_and, or_self, or_true, true_or, or_false, false_or, not_true_eq_false, not_false_eq_true, hA]
        refine ⟨_, rfl, En_ins h hz (p := n - i) ⟨by omega, by omega⟩ (fun j j0 j1 => ?_) (uI_self _ _ _) (fun j j0 j1 => ?_), fun j hj => ?_⟩
        · rw [uI_ne (by omega)]
          refine ⟨h1 _ (by omega), ?_⟩
          by_cases e : j = n - i - 1
          · rw [e, show p * 349 + (n - i - 1) = p * 349 + (n - i) - 1 by omega]; exact hc
          · have := h.2.1 j (n - i - 1) j0 (by omega) (by omega)
            dsimp only at this
            rw [show p * 349 + (n - i - 1) = p * 349 + (n - i) - 1 by omega] at this
            omega
        · rw [uI_ne (by omega)]
          exact h2 j j0 j1
        · rw [uI_ne (by omega)]
          rcases hj with hj | hj
          · exact h1 j (by omega)
          · exact h3 j hj
      · simp (disch := omega) only [↓bd_e, ↓jn_e, ↓opt_bind, ↓reduceIte, iLeT, iLeF, iLtT, iLtF, iEqT, iEqF, il_0, il_1, il_2, il_3, il_4, il_5, il_6, il_7, il_8, il_9, il_10, il_11, il_12, il_13, il_14, il_15, il_16, il_18, il_20, il_24, il_32, il_35, il_40, il_44, il_47, il_48, il_56, il_57, il_58, il_59, il_63, il_64, il_72, il_100, il_120, il_126, il_127, il_160, il_192, il_255, il_349, il_1748, il_6992, iI_add, iI_sub, iI_mul, iI_neg, iI_le, iI_lt, iI_eq, rd_lA, wr_lA, rd_lR, wr_lR, ite_iI, max_iI, min_iI, rem_iI, div_iI, ite_true, ite_false, if_true, if_false, ite_self, and_self, and_true, true_and, and_false, false_and, or_self, or_true, true_or, or_false, false_or, not_true_eq_false, not_false_eq_true, hA, e1]
        refine ih (uI A (p * 349 + (n - i)) (K (p * 349 + (n - i) - 1))) ⟨by omega, fun j hj => ?_, fun j j0 j1 => ?_, fun j hj => ?_⟩
        · rw [uI_ne (by omega)]
          exact h1 j (by omega)
        · by_cases e : j = n - i - 1
          · subst e
            rw [show p * 349 + (n - i - 1 + 1) = p * 349 + (n - i) by omega, uI_self, show p * 349 + (n - i - 1) = p * 349 + (n - i) - 1 by omega]
            exact ⟨rfl, by omega⟩
          · rw [uI_ne (by omega)]
            exact h2 j (by omega) j1
        · rw [uI_ne (by omega)]
          exact h3 j hj
  rw [show n - 0 = n by omega] at key
  exact key
