/-! the other changes of images and groups -/
theorem c_has {n s : Int} (hn : 0 ≤ n ∧ n ≤ 24) (hs : -2147483648 ≤ s ∧ s < 2147483648) : f_X6_has (iI n) (iI s) = iI (if 0 ≤ s ∧ s < n then 1 else 0) := by
  unfold f_X6_has
  by_cases h0 : s < 0
  · simp (disch := omega) only [↓bd_e, ↓jn_e, ↓opt_bind, ↓reduceIte, iLeT, iLeF, iLtT, iLtF, iEqT, iEqF, il_0, il_1, il_2, il_3, il_4, il_5, il_6, il_7, il_8, il_9, il_10, il_11, il_12, il_13, il_14, il_15, il_16, il_18, il_20, il_24, il_32, il_35, il_40, il_44, il_47, il_48, il_56, il_57, il_58, il_59, il_63, il_64, il_72, il_100, il_120, il_126, il_127, il_160, il_192, il_255, il_349, il_1748, il_6992, iI_add, iI_sub, iI_mul, iI_neg, iI_le, iI_lt, iI_eq, rd_lA, wr_lA, rd_lR, wr_lR, ite_iI, max_iI, min_iI, rem_iI, div_iI, ite_true, ite_false, if_true, if_false, ite_self, and_self, and_true, true_and, and_false, false_and, or_self, or_true, true_or, or_false, false_or, not_true_eq_false, not_false_eq_true]
  · by_cases h1 : n ≤ s
    · simp (disch := omega) only [↓bd_e, ↓jn_e, ↓opt_bind, ↓reduceIte, iLeT, iLeF, iLtT, iLtF, iEqT, iEqF, il_0, il_1, il_2, il_3, il_4, il_5, il_6, il_7, il_8, il_9, il_10, il_11, il_12, il_13, il_14, il_15, il_16, il_18, il_20, il_24, il_32, il_35, il_40, il_44, il_47, il_48, il_56, il_57, il_58, il_59, il_63, il_64, il_72, il_100, il_120, il_126, il_127, il_160, il_192, il_255, il_349, il_1748, il_6992, iI_add, iI_sub, iI_mul, iI_neg, iI_le, iI_lt, iI_eq, rd_lA, wr_lA, rd_lR, wr_lR, ite_iI, max_iI, min_iI, rem_iI, div_iI, ite_true, ite_false, if_true, if_false, ite_self, and_self, and_true, true_and, and_false, false_and, or_self, or_true, true_or, or_false, false_or, not_true_eq_false, not_false_eq_true]
    · simp (disch := omega) only [↓bd_e, ↓jn_e, ↓opt_bind, ↓reduceIte, iLeT, iLeF, iLtT, iLtF, iEqT, iEqF, il_0, il_1, il_2, il_3, il_4, il_5, il_6, il_7, il_8, il_9, il_10, il_11, il_12, il_13, il_14, il_15, il_16, il_18, il_20, il_24, il_32, il_35, il_40, il_44, il_47, il_48, il_56, il_57, il_58, il_59, il_63, il_64, il_72, il_100, il_120, il_126, il_127, il_160, il_192, il_255, il_349, il_1748, il_6992, iI_add, iI_sub, iI_mul, iI_neg, iI_le, iI_lt, iI_eq, rd_lA, wr_lA, rd_lR, wr_lR, ite_iI, max_iI, min_iI, rem_iI, div_iI, ite_true, ite_false, if_true, if_false, ite_self, and_self, and_true, true_and, and_false, false_and, or_self, or_true, true_or, or_false, false_or, not_true_eq_false, not_false_eq_true]
theorem m_isSprite {V : Int → Int} {s : Int} (hn : 0 ≤ V 0 ∧ V 0 ≤ 24) (hs : -2147483648 ≤ s ∧ s < 2147483648) : f_X11_isSprite (lA V) (iI s) = some (iI (if 0 ≤ s ∧ s < V 0 then 1 else 0)) := by
  unfold f_X11_isSprite
  by_cases h : 0 ≤ s ∧ s < V 0
  · rw [if_pos h]
    have hn := in_iI (a := s) (b := 0) (c := V 0 - 1) (by omega) (by omega) (by omega) (by omega) (by omega) (by omega)
    rw [if_pos (by omega)] at hn
    simp (disch := omega) only [↓bd_e, ↓jn_e, ↓opt_bind, ↓reduceIte, iLeT, iLeF, iLtT, iLtF, iEqT, iEqF, il_0, il_1, il_2, il_3, il_4, il_5, il_6, il_7, il_8, il_9, il_10, il_11, il_12, il_13, il_14, il_15, il_16, il_18, il_20, il_24, il_32, il_35, il_40, il_44, il_47, il_48, il_56, il_57, il_58, il_59, il_63, il_64, il_72, il_100, il_120, il_126, il_127, il_160, il_192, il_255, il_349, il_1748, il_6992, iI_add, iI_sub, iI_mul, iI_neg, iI_le, iI_lt, iI_eq, rd_lA, wr_lA, rd_lR, wr_lR, ite_iI, max_iI, min_iI, rem_iI, div_iI, ite_true, ite_false, if_true, if_false, ite_self, and_self, and_true, true_and, and_false, false_and, or_self, or_true, true_or, or_false, false_or, not_true_eq_false, not_false_eq_true, hn, z_iI _ (Or.inr (rfl : (1 : Int) = 1))]
  · rw [if_neg h]
    have hn := in_iI (a := s) (b := 0) (c := V 0 - 1) (by omega) (by omega) (by omega) (by omega) (by omega) (by omega)
    rw [if_neg (by omega)] at hn
    simp (disch := omega) only [↓bd_e, ↓jn_e, ↓opt_bind, ↓reduceIte, iLeT, iLeF, iLtT, iLtF, iEqT, iEqF, il_0, il_1, il_2, il_3, il_4, il_5, il_6, il_7, il_8, il_9, il_10, il_11, il_12, il_13, il_14, il_15, il_16, il_18, il_20, il_24, il_32, il_35, il_40, il_44, il_47, il_48, il_56, il_57, il_58, il_59, il_63, il_64, il_72, il_100, il_120, il_126, il_127, il_160, il_192, il_255, il_349, il_1748, il_6992, iI_add, iI_sub, iI_mul, iI_neg, iI_le, iI_lt, iI_eq, rd_lA, wr_lA, rd_lR, wr_lR, ite_iI, max_iI, min_iI, rem_iI, div_iI, ite_true, ite_false, if_true, if_false, ite_self, and_self, and_true, true_and, and_false, false_and, or_self, or_true, true_or, or_false, false_or, not_true_eq_false, not_false_eq_true, hn, z_iI _ (Or.inl (rfl : (0 : Int) = 0))]
def isPx (V : Int → Int) (s x y : Int) : Prop := (0 ≤ s ∧ s < V 0) ∧ (0 ≤ x ∧ x < V (20 + 72 * s + 0)) ∧ (0 ≤ y ∧ y < V (20 + 72 * s + 1))
theorem c_hasPixel {V : Int → Int} (hi : vImg V) {Ws Hs : Int → Int} (hW : ∀ j, 0 ≤ j → j < V 0 → Ws j = V (20 + 72 * j + 0) ∧ Hs j = V (20 + 72 * j + 1)) {s x y : Int} (hs : -2147483648 ≤ s ∧ s < 2147483648) (hx : -2147483648 ≤ x ∧ x < 2147483648) (hy : -2147483648 ≤ y ∧ y < 2147483648) :
    ∃ r, f_X6_hasPixel (iI (V 0)) (lA Ws) (lA Hs) (iI s) (iI x) (iI y) = some (iI r) ∧ isF r (isPx V s x y) := by
  have hn := hi.1
  have h1 := c_has (n := V 0) (s := s) hn hs
  unfold f_X6_hasPixel
  by_cases h : 0 ≤ s ∧ s < V 0
  · rw [if_pos h] at h1
    have h2 := hW s h.1 h.2
    have h3 := hi.2.1 s h.1 h.2
    obtain ⟨h2a, h2b⟩ := h2
    by_cases x0 : x < 0
    · exact ⟨0, by simp (disch := omega) only [↓bd_e, ↓jn_e, ↓opt_bind, ↓reduceIte, iLeT, iLeF, iLtT, iLtF, iEqT, iEqF, il_0, il_1, il_2, il_3, il_4, il_5, il_6, il_7, il_8, il_9, il_10, il_11, il_12, il_13, il_14, il_15, il_16, il_18, il_20, il_24, il_32, il_35, il_40, il_44, il_47, il_48, il_56, il_57, il_58, il_59, il_63, il_64, il_72, il_100, il_120, il_126, il_127, il_160, il_192, il_255, il_349, il_1748, il_6992, iI_add, iI_sub, iI_mul, iI_neg, iI_le, iI_lt, iI_eq, rd_lA, wr_lA, rd_lR, wr_lR, ite_iI, max_iI, min_iI, rem_iI, div_iI, ite_true, ite_false, if_true, if_false, ite_self, and_self, and_true, true_and, and_false, false_and, or_self, or_true, true_or, or_false, false_or, not_true_eq_false, not_false_eq_true, h1], isF_F (fun z => by have := z.2.1; omega)⟩
    · by_cases x1 : V (20 + 72 * s + 0) ≤ x
      · exact ⟨0, by simp (disch := omega) only [↓bd_e, ↓jn_e, ↓opt_bind, ↓reduceIte, iLeT, iLeF, iLtT, iLtF, iEqT, iEqF, il_0, il_1, il_2, il_3, il_4, il_5, il_6, il_7, il_8, il_9, il_10, il_11, il_12, il_13, il_14, il_15, il_16, il_18, il_20, il_24, il_32, il_35, il_40, il_44, il_47, il_48, il_56, il_57, il_58, il_59, il_63, il_64, il_72, il_100, il_120, il_126, il_127, il_160, il_192, il_255, il_349, il_1748, il_6992, iI_add, iI_sub, iI_mul, iI_neg, iI_le, iI_lt, iI_eq, rd_lA, wr_lA, rd_lR, wr_lR, ite_iI, max_iI, min_iI, rem_iI, div_iI, ite_true, ite_false, if_true, if_false, ite_self, and_self, and_true, true_and, and_false, false_and, or_self, or_true, true_or, or_false, false_or, not_true_eq_false, not_false_eq_true, h1, h2a], isF_F (fun z => by have := z.2.1; omega)⟩
      · by_cases y0 : y < 0
        · exact ⟨0, by simp (disch := omega) only [↓bd_e, ↓jn_e, ↓opt_bind, ↓reduceIte, iLeT, iLeF, iLtT, iLtF, iEqT, iEqF, il_0, il_1, il_2, il_3, il_4, il_5, il_6, il_7, il_8, il_9, il_10, il_11, il_12, il_13, il_14, il_15, il_16, il_18, il_20, il_24, il_32, il_35, il_40, il_44, il_47, il_48, il_56, il_57, il_58, il_59, il_63, il_64, il_72, il_100, il_120, il_126, il_127, il_160, il_192, il_255, il_349, il_1748, il_6992, iI_add, iI_sub, iI_mul, iI_neg, iI_le, iI_lt, iI_eq, rd_lA, wr_lA, rd_lR, wr_lR, ite_iI, max_iI, min_iI, rem_iI, div_iI, ite_true, ite_false, if_true, if_false, ite_self, and_self, and_true, true_and, and_false, false_and, or_self, or_true, true_or, or_false, false_or, not_true_eq_false, not_false_eq_true, h1, h2a], isF_F (fun z => by have := z.2.2; omega)⟩
        · by_cases y1 : V (20 + 72 * s + 1) ≤ y
          · exact ⟨0, by simp (disch := omega) only [↓bd_e, ↓jn_e, ↓opt_bind, ↓reduceIte, iLeT, iLeF, iLtT, iLtF, iEqT, iEqF, il_0, il_1, il_2, il_3, il_4, il_5, il_6, il_7, il_8, il_9, il_10, il_11, il_12, il_13, il_14, il_15, il_16, il_18, il_20, il_24, il_32, il_35, il_40, il_44, il_47, il_48, il_56, il_57, il_58, il_59, il_63, il_64, il_72, il_100, il_120, il_126, il_127, il_160, il_192, il_255, il_349, il_1748, il_6992, iI_add, iI_sub, iI_mul, iI_neg, iI_le, iI_lt, iI_eq, rd_lA, wr_lA, rd_lR, wr_lR, ite_iI, max_iI, min_iI, rem_iI, div_iI, ite_true, ite_false, if_true, if_false, ite_self, and_self, and_true, true_and, and_false, false_and, or_self, or_true, true_or, or_false, false_or, not_true_eq_false, not_false_eq_true, h1, h2a, h2b], isF_F (fun z => by have := z.2.2; omega)⟩
          · exact ⟨1, by simp (disch := omega) only [↓bd_e, ↓jn_e, ↓opt_bind, ↓reduceIte, iLeT, iLeF, iLtT, iLtF, iEqT, iEqF, il_0, il_1, il_2, il_3, il_4, il_5, il_6, il_7, il_8, il_9, il_10, il_11, il_12, il_13, il_14, il_15, il_16, il_18, il_20, il_24, il_32, il_35, il_40, il_44, il_47, il_48, il_56, il_57, il_58, il_59, il_63, il_64, il_72, il_100, il_120, il_126, il_127, il_160, il_192, il_255, il_349, il_1748, il_6992, iI_add, iI_sub, iI_mul, iI_neg, iI_le, iI_lt, iI_eq, rd_lA, wr_lA, rd_lR, wr_lR, ite_iI, max_iI, min_iI, rem_iI, div_iI, ite_true, ite_false, if_true, if_false, ite_self, and_self, and_true, true_and, and_false, false_and, or_self, or_true, true_or, or_false, false_or, not_true_eq_false, not_false_eq_true, h1, h2a, h2b], isF_T ⟨h, by omega, by omega⟩⟩
  · rw [if_neg h] at h1
    exact ⟨0, by simp (disch := omega) only [↓bd_e, ↓jn_e, ↓opt_bind, ↓reduceIte, iLeT, iLeF, iLtT, iLtF, iEqT, iEqF, il_0, il_1, il_2, il_3, il_4, il_5, il_6, il_7, il_8, il_9, il_10, il_11, il_12, il_13, il_14, il_15, il_16, il_18, il_20, il_24, il_32, il_35, il_40, il_44, il_47, il_48, il_56, il_57, il_58, il_59, il_63, il_64, il_72, il_100, il_120, il_126, il_127, il_160, il_192, il_255, il_349, il_1748, il_6992, iI_add, iI_sub, iI_mul, iI_neg, iI_le, iI_lt, iI_eq, rd_lA, wr_lA, rd_lR, wr_lR, ite_iI, max_iI, min_iI, rem_iI, div_iI, ite_true, ite_false, if_true, if_false, ite_self, and_self, and_true, true_and, and_false, false_and, or_self, or_true, true_or, or_false, false_or, not_true_eq_false, not_false_eq_true, h1], isF_F (fun z => h z.1)⟩
theorem m_isPixel {V : Int → Int} (hi : vImg V) {s x y : Int} (hs : -2147483648 ≤ s ∧ s < 2147483648) (hx : -2147483648 ≤ x ∧ x < 2147483648) (hy : -2147483648 ≤ y ∧ y < 2147483648) :
    ∃ r, f_X11_isPixel (lA V) (iI s) (iI x) (iI y) = some (iI r) ∧ isF r (isPx V s x y) := by
  have h1 := m_isSprite (V := V) (s := s) hi.1 hs
  have hn := hi.1
  unfold f_X11_isPixel
  by_cases h : 0 ≤ s ∧ s < V 0
  · rw [if_pos h] at h1
    have h3 := hi.2.1 s h.1 h.2
    have hnx := in_iI (a := x) (b := 0) (c := V (20 + 72 * s + 0) - 1) (by omega) (by omega) (by omega) (by omega) (by omega) (by omega)
    have hny := in_iI (a := y) (b := 0) (c := V (20 + 72 * s + 1) - 1) (by omega) (by omega) (by omega) (by omega) (by omega) (by omega)
    by_cases x0 : 0 ≤ x ∧ x < V (20 + 72 * s + 0)
    · rw [if_pos (by omega)] at hnx
      by_cases y0 : 0 ≤ y ∧ y < V (20 + 72 * s + 1)
      · rw [if_pos (by omega)] at hny
        exact ⟨1, by simp (disch := omega) only [↓bd_e, ↓jn_e, ↓opt_bind, ↓reduceIte, iLeT, iLeF, iLtT, iLtF, iEqT, iEqF, il_0, il_1, il_2, il_3, il_4, il_5, il_6, il_7, il_8, il_9, il_10, il_11, il_12, il_13, il_14, il_15, il_16, il_18, il_20, il_24, il_32, il_35, il_40, il_44, il_47, il_48, il_56, il_57, il_58, il_59, il_63, il_64, il_72, il_100, il_120, il_126, il_127, il_160, il_192, il_255, il_349, il_1748, il_6992, iI_add, iI_sub, iI_mul, iI_neg, iI_le, iI_lt, iI_eq, rd_lA, wr_lA, rd_lR, wr_lR, ite_iI, max_iI, min_iI, rem_iI, div_iI, ite_true, ite_false, if_true, if_false, ite_self, and_self, and_true, true_and, and_false, false_and, or_self, or_true, true_or, or_false, false_or, not_true_eq_false, not_false_eq_true, h1, f_X11_at, hnx, hny], isF_T ⟨h, by omega, by omega⟩⟩
      · rw [if_neg (by omega)] at hny
        exact ⟨0, by simp (disch := omega) only [↓bd_e, ↓jn_e, ↓opt_bind, ↓reduceIte, iLeT, iLeF, iLtT, iLtF, iEqT, iEqF, il_0, il_1, il_2, il_3, il_4, il_5, il_6, il_7, il_8, il_9, il_10, il_11, il_12, il_13, il_14, il_15, il_16, il_18, il_20, il_24, il_32, il_35, il_40, il_44, il_47, il_48, il_56, il_57, il_58, il_59, il_63, il_64, il_72, il_100, il_120, il_126, il_127, il_160, il_192, il_255, il_349, il_1748, il_6992, iI_add, iI_sub, iI_mul, iI_neg, iI_le, iI_lt, iI_eq, rd_lA, wr_lA, rd_lR, wr_lR, ite_iI, max_iI, min_iI, rem_iI, div_iI, ite_true, ite_false, if_true, if_false, ite_self, and_self, and_true, true_and, and_false, false_and, or_self, or_true, true_or, or_false, false_or, not_true_eq_false, not_false_eq_true, h1, f_X11_at, hnx, hny], isF_F (fun z => y0 z.2.2)⟩
    · rw [if_neg (by omega)] at hnx
      exact ⟨0, by simp (disch := omega) only [↓bd_e, ↓jn_e, ↓opt_bind, ↓reduceIte, iLeT, iLeF, iLtT, iLtF, iEqT, iEqF, il_0, il_1, il_2, il_3, il_4, il_5, il_6, il_7, il_8, il_9, il_10, il_11, il_12, il_13, il_14, il_15, il_16, il_18, il_20, il_24, il_32, il_35, il_40, il_44, il_47, il_48, il_56, il_57, il_58, il_59, il_63, il_64, il_72, il_100, il_120, il_126, il_127, il_160, il_192, il_255, il_349, il_1748, il_6992, iI_add, iI_sub, iI_mul, iI_neg, iI_le, iI_lt, iI_eq, rd_lA, wr_lA, rd_lR, wr_lR, ite_iI, max_iI, min_iI, rem_iI, div_iI, ite_true, ite_false, if_true, if_false, ite_self, and_self, and_true, true_and, and_false, false_and, or_self, or_true, true_or, or_false, false_or, not_true_eq_false, not_false_eq_true, h1, f_X11_at, hnx], isF_F (fun z => x0 z.2.1)⟩
  · rw [if_neg h] at h1
    exact ⟨0, by simp (disch := omega) only [↓bd_e, ↓jn_e, ↓opt_bind, ↓reduceIte, iLeT, iLeF, iLtT, iLtF, iEqT, iEqF, il_0, il_1, il_2, il_3, il_4, il_5, il_6, il_7, il_8, il_9, il_10, il_11, il_12, il_13, il_14, il_15, il_16, il_18, il_20, il_24, il_32, il_35, il_40, il_44, il_47, il_48, il_56, il_57, il_58, il_59, il_63, il_64, il_72, il_100, il_120, il_126, il_127, il_160, il_192, il_255, il_349, il_1748, il_6992, iI_add, iI_sub, iI_mul, iI_neg, iI_le, iI_lt, iI_eq, rd_lA, wr_lA, rd_lR, wr_lR, ite_iI, max_iI, min_iI, rem_iI, div_iI, ite_true, ite_false, if_true, if_false, ite_self, and_self, and_true, true_and, and_false, false_and, or_self, or_true, true_or, or_false, false_or, not_true_eq_false, not_false_eq_true, h1], isF_F (fun z => h z.1)⟩
theorem isF_det {r r' : Int} {P : Prop} (h : isF r P) (h' : isF r' P) : r = r' := by
  rcases h with ⟨rfl, h⟩ | ⟨rfl, h⟩ <;> rcases h' with ⟨rfl, h'⟩ | ⟨rfl, h'⟩
  · rfl
  · exact absurd h h'
  · exact absurd h' h
  · rfl
theorem nib_setI (r : Int32) {x x' c : Int} (h1 : 0 ≤ x) (h2 : x < 8) (h3 : 0 ≤ x') (h4 : x' < 8) (h5 : 0 ≤ c) (h6 : c < 16) :
    nib ((r &&& (g_shl (iI 15) (iI (4 * x)) ^^^ iI (-1))) ||| g_shl (iI c) (iI (4 * x))) x' = if x' = x then iI c else nib r x' := nib_set r h1 h2 h3 h4 h5 h6
/-- a color set, in the class's rows -/
theorem c_setColor {V : Int → Int} (hi : vImg V) {Ws Hs : Int → Int} (hW : ∀ j, 0 ≤ j → j < V 0 → Ws j = V (20 + 72 * j + 0) ∧ Hs j = V (20 + 72 * j + 1)) {R : Int → Int32} (hr : ∀ j, 0 ≤ j → j < V 0 → vRow V R j) {s x y c : Int} (h : isPx V s x y) (hc : 0 ≤ c ∧ c ≤ 9) :
    ∃ R', f_X6_setColor (iI (V 0)) (lA Ws) (lA Hs) (lR R) (iI s) (iI x) (iI y) (iI c) = some (lR R') ∧ ∀ j, 0 ≤ j → j < V 0 → vRow (uI V (20 + 72 * s + 8 + 8 * y + x) c) R' j := by
  obtain ⟨⟨s0, s1⟩, ⟨x0, x1⟩, ⟨y0, y1⟩⟩ := id h
  have h3 := hi.2.1 s s0 s1
  have hn := hi.1
  obtain ⟨r, e1, e2⟩ := c_hasPixel hi hW (s := s) (x := x) (y := y) (by omega) (by omega) (by omega)
  have e3 : r = 1 := isF_det e2 (isF_T h)
  subst e3
  unfold f_X6_setColor
  refine ⟨uR R (s * 8 + y) ((R (s * 8 + y) &&& (g_shl (iI 15) (iI (4 * x)) ^^^ iI (-1))) ||| g_shl (iI c) (iI (4 * x))), by simp (disch := omega) only [↓bd_e, ↓jn_e, ↓opt_bind, ↓reduceIte, iLeT, iLeF, iLtT, iLtF, iEqT, iEqF, il_0, il_1, il_2, il_3, il_4, il_5, il_6, il_7, il_8, il_9, il_10, il_11, il_12, il_13, il_14, il_15, il_16, il_18, il_20, il_24, il_32, il_35, il_40, il_44, il_47, il_48, il_56, il_57, il_58, il_59, il_63, il_64, il_72, il_100, il_120, il_126, il_127, il_160, il_192, il_255, il_349, il_1748, il_6992, iI_add, iI_sub, iI_mul, iI_neg, iI_le, iI_lt, iI_eq, rd_lA, wr_lA, rd_lR, wr_lR, ite_iI, max_iI, min_iI, rem_iI, div_iI, ite_true, ite_false, if_true, if_false, ite_self, and_self, and_true, true_and, and_false, false_and, or_self, or_true, true_or, or_false, false_or, not_true_eq_false, not_false_eq_true, e1], fun j j0 j1 => ?_⟩
  intro a b a0 a1 b0 b1
  have hij := hi.2.1 j j0 j1
  rw [uI_ne (by omega)] at b1
  rw [uI_ne (show 20 + 72 * j + 0 ≠ 20 + 72 * s + 8 + 8 * y + x by omega)]
  unfold uR
  by_cases e : j * 8 + b = s * 8 + y
  · obtain ⟨rfl, rfl⟩ : j = s ∧ b = y := by omega
    rw [if_pos rfl, nib_setI _ x0 (by omega) a0 a1 hc.1 (by omega), uI_at]
    by_cases e2 : a = x
    · rw [if_pos e2, if_pos (by omega), if_pos (by omega)]
    · rw [if_neg e2, if_neg (show ¬ 20 + 72 * j + 8 + 8 * b + a = 20 + 72 * j + 8 + 8 * b + x by omega)]
      exact hr j j0 j1 a b a0 a1 b0 b1
  · rw [if_neg e, uI_ne (by omega)]
    exact hr j j0 j1 a b a0 a1 b0 b1
theorem vImg_px {V : Int → Int} (hi : vImg V) {s x y c : Int} (h : isPx V s x y) (hc : 0 ≤ c ∧ c ≤ 9) : vImg (uI V (20 + 72 * s + 8 + 8 * y + x) c) := by
  obtain ⟨⟨s0, s1⟩, ⟨x0, x1⟩, ⟨y0, y1⟩⟩ := h
  obtain ⟨h0, h1, h2⟩ := hi
  have h3 := h1 s s0 s1
  refine ⟨by rw [uI_ne (by omega)]; exact h0, fun j j0 j1 => ?_, fun j a b j0 j1 a0 a1 b0 b1 => ?_⟩
  · rw [uI_ne (by omega)] at j1
    rw [uI_ne (by omega), uI_ne (by omega), uI_ne (by omega)]
    exact h1 j j0 j1
  · rw [uI_ne (by omega)] at j1
    rw [uI_at]
    split
    · omega
    · exact h2 j a b j0 j1 a0 a1 b0 b1
theorem vSet_hi {V : Int → Int} {k x : Int} (h : vSet V) (hk : 13 ≤ k) : vSet (uI V k x) := by
  unfold vSet at h ⊢
  simp (disch := omega) only [↓bd_e, ↓jn_e, ↓opt_bind, ↓reduceIte, iLeT, iLeF, iLtT, iLtF, iEqT, iEqF, il_0, il_1, il_2, il_3, il_4, il_5, il_6, il_7, il_8, il_9, il_10, il_11, il_12, il_13, il_14, il_15, il_16, il_18, il_20, il_24, il_32, il_35, il_40, il_44, il_47, il_48, il_56, il_57, il_58, il_59, il_63, il_64, il_72, il_100, il_120, il_126, il_127, il_160, il_192, il_255, il_349, il_1748, il_6992, iI_add, iI_sub, iI_mul, iI_neg, iI_le, iI_lt, iI_eq, rd_lA, wr_lA, rd_lR, wr_lR, ite_iI, max_iI, min_iI, rem_iI, div_iI, ite_true, ite_false, if_true, if_false, ite_self, and_self, and_true, true_and, and_false, false_and, or_self, or_true, true_or, or_false, false_or, not_true_eq_false, not_false_eq_true, uI_at]
theorem x_setPixel {V : Int → Int} {c : Nat → Int → Int} {S : Nat → Nat → Int32} {d : Nat → Int → Int} {l p : Int} {H0 H1 H2 H3 H4 : Nat → Nat → Int32} {P : Int → Int} (h : stI V c S d l p (hF H0 H1 H2 H3 H4) P) (s x y z : Int) (hs : -2147483648 ≤ s ∧ s < 2147483648) (hx : -2147483648 ≤ x ∧ x < 2147483648) (hy : -2147483648 ≤ y ∧ y < 2147483648) (hz : -2147483648 ≤ z ∧ z < 2147483648) :
    ∃ a V' c' S' d' l' p' K0 K1 K2 K3 K4 P', f_X10_setPixel S (lA (d 0)) (lA (d 1)) (lA (d 2)) (lA (d 3)) (lA (d 4)) (lA (d 5)) (iI l) (iI p) H0 H1 H2 H3 H4 (iI s) (iI x) (iI y) (iI z) = some (a, S', lA (d' 0), lA (d' 1), lA (d' 2), lA (d' 3), lA (d' 4), lA (d' 5), iI l', iI p', K0, K1, K2, K3, K4) ∧
      f_X11_setPixel (iI p) (lA V) (lA P) (iI s) (iI x) (iI y) (iI z) = some (a, iI p', lA V', lA P') ∧ stI V' c' S' d' l' p' (hF K0 K1 K2 K3 K4) P' ∧ stU V V' c c' := by
  obtain ⟨⟨g0, g1, g2, g3, g4⟩, gr, gc, gd, gh⟩ := id h
  have hW : ∀ j, 0 ≤ j → j < V 0 → sA S 1 j = V (20 + 72 * j + 0) ∧ sA S 2 j = V (20 + 72 * j + 1) := fun j j0 j1 => ⟨((sR_2 gr).2.2.1 j j0 j1).1, ((sR_2 gr).2.2.1 j j0 j1).2.1⟩
  obtain ⟨r1, e1, f1⟩ := c_hasPixel g2 hW hs hx hy
  obtain ⟨r2, e2, f2⟩ := m_isPixel g2 hs hx hy
  obtain rfl := isF_det f1 f2
  have e1' : f_X6_hasPixel (S 0 0) (S 1) (S 2) (iI s) (iI x) (iI y) = some (iI r1) := by rw [gr.1.1, sA_lA S 1, sA_lA S 2]; exact e1
  unfold f_X10_setPixel f_X11_setPixel
  rcases f1 with ⟨rfl, f1⟩ | ⟨rfl, f1⟩
  · obtain ⟨⟨s0, s1⟩, ⟨x0, x1⟩, ⟨y0, y1⟩⟩ := id f1
    have hij := g2.2.1 s s0 s1
    have hn := g2.1
    by_cases hr : 0 ≤ z ∧ z ≤ 9
    · obtain ⟨R', e3, e4⟩ := c_setColor g2 hW (fun j j0 j1 => ((sR_2 gr).2.2.1 j j0 j1).2.2.2) f1 hr
      have e3' : f_X6_setColor (S 0 0) (S 1) (S 2) (S 4) (iI s) (iI x) (iI y) (iI z) = some (lR R') := by rw [gr.1.1, sA_lA S 1, sA_lA S 2, sW_lR S]; exact e3
      have e5 : f_X6_colorAt (S 4) (iI s) (iI x) (iI y) = some (iI (V (20 + 72 * s + 8 + 8 * y + x))) := by
        rw [sW_lR S, c_colorAt (by omega) (by omega), ((sR_2 gr).2.2.1 s s0 s1).2.2.2 x y (by omega) (by omega) (by omega) (by omega), if_pos (by omega)]
      have h2 : sR2 (uI V (20 + 72 * s + 8 + 8 * y + x) z) (updC S 4 (lR R')) := by
        obtain ⟨a1, a2, a3, a4, a5⟩ := sR_2 gr
        refine ⟨by rw [uI_ne (by omega)]; exact a1, fun k hk => by rw [uI_ne (by omega)]; exact a2 k hk, fun j j0 j1 => ?_, fun q q0 q1 => by rw [uI_ne (by omega)]; exact a4 q q0 q1, a5⟩
        rw [uI_ne (by omega)] at j1
        obtain ⟨b1, b2, b3, b4⟩ := a3 j j0 j1
        rw [uI_ne (by omega), uI_ne (by omega), uI_ne (by omega)]
        refine ⟨b1, b2, b3, ?_⟩
        have h5 := e4 j j0 j1
        intro a b a0 a1 b0 b1
        have hij2 := g2.2.1 j j0 j1
        have b1' := b1
        rw [uI_ne (by omega)] at b1'
        have h6 := h5 a b a0 a1 b0 b1
        rw [← h6]
        show nib (R' ((j * 8 + b).toNat : Int)) a = _
        rw [Int.toNat_of_nonneg (by omega)]
      obtain ⟨K0, K1, K2, K3, K4, P', S3, c', d', q1, q2, q3, q4⟩ := x_set h (V2 := uI V (20 + 72 * s + 8 + 8 * y + x) z) (S2 := updC S 4 (lR R')) (vOut_uI g0 (by omega)) (vSet_hi g1 (by omega)) (vImg_px g2 f1 hr) (vPgr_uI g3.2.2 (by omega)) h2
      refine ⟨iI (V (20 + 72 * s + 8 + 8 * y + x)), _, c', _, d', _, _, K0, K1, K2, K3, K4, P', ?_, ?_, q4 (S 6), Or.inr rfl⟩
      · have hn := within_iI (a := z) (b := 0) (c := 9) (by omega) (by omega) (by omega) (by omega) (by omega) (by omega)
        rw [if_pos hr] at hn
        simp (disch := omega) only [↓bd_e, ↓jn_e, ↓opt_bind, ↓reduceIte, iLeT, iLeF, iLtT, iLtF, iEqT, iEqF, il_0, il_1, il_2, il_3, il_4, il_5, il_6, il_7, il_8, il_9, il_10, il_11, il_12, il_13, il_14, il_15, il_16, il_18, il_20, il_24, il_32, il_35, il_40, il_44, il_47, il_48, il_56, il_57, il_58, il_59, il_63, il_64, il_72, il_100, il_120, il_126, il_127, il_160, il_192, il_255, il_349, il_1748, il_6992, iI_add, iI_sub, iI_mul, iI_neg, iI_le, iI_lt, iI_eq, rd_lA, wr_lA, rd_lR, wr_lR, ite_iI, max_iI, min_iI, rem_iI, div_iI, ite_true, ite_false, if_true, if_false, ite_self, and_self, and_true, true_and, and_false, false_and, or_self, or_true, true_or, or_false, false_or, not_true_eq_false, not_false_eq_true, e1', hn, e5, q1, e3', q3]
      · have hn := in_iI (a := z) (b := 0) (c := 9) (by omega) (by omega) (by omega) (by omega) (by omega) (by omega)
        rw [if_pos hr] at hn
        have em := m_sets (V := V) (P := P) (k := (20 + 72 * s + 8 + 8 * y + x)) (x := z) (by omega) q2
        simp (disch := omega) only [↓bd_e, ↓jn_e, ↓opt_bind, ↓reduceIte, iLeT, iLeF, iLtT, iLtF, iEqT, iEqF, il_0, il_1, il_2, il_3, il_4, il_5, il_6, il_7, il_8, il_9, il_10, il_11, il_12, il_13, il_14, il_15, il_16, il_18, il_20, il_24, il_32, il_35, il_40, il_44, il_47, il_48, il_56, il_57, il_58, il_59, il_63, il_64, il_72, il_100, il_120, il_126, il_127, il_160, il_192, il_255, il_349, il_1748, il_6992, iI_add, iI_sub, iI_mul, iI_neg, iI_le, iI_lt, iI_eq, rd_lA, wr_lA, rd_lR, wr_lR, ite_iI, max_iI, min_iI, rem_iI, div_iI, ite_true, ite_false, if_true, if_false, ite_self, and_self, and_true, true_and, and_false, false_and, or_self, or_true, true_or, or_false, false_or, not_true_eq_false, not_false_eq_true, e2, hn, f_X11_pixelAt, em]
    · refine ⟨iI (-1), V, c, S, d, l, p, H0, H1, H2, H3, H4, P, ?_, ?_, h, Or.inl ⟨rfl, rfl⟩⟩
      · have hn := within_iI (a := z) (b := 0) (c := 9) (by omega) (by omega) (by omega) (by omega) (by omega) (by omega)
        rw [if_neg hr] at hn
        simp (disch := omega) only [↓bd_e, ↓jn_e, ↓opt_bind, ↓reduceIte, iLeT, iLeF, iLtT, iLtF, iEqT, iEqF, il_0, il_1, il_2, il_3, il_4, il_5, il_6, il_7, il_8, il_9, il_10, il_11, il_12, il_13, il_14, il_15, il_16, il_18, il_20, il_24, il_32, il_35, il_40, il_44, il_47, il_48, il_56, il_57, il_58, il_59, il_63, il_64, il_72, il_100, il_120, il_126, il_127, il_160, il_192, il_255, il_349, il_1748, il_6992, iI_add, iI_sub, iI_mul, iI_neg, iI_le, iI_lt, iI_eq, rd_lA, wr_lA, rd_lR, wr_lR, ite_iI, max_iI, min_iI, rem_iI, div_iI, ite_true, ite_false, if_true, if_false, ite_self, and_self, and_true, true_and, and_false, false_and, or_self, or_true, true_or, or_false, false_or, not_true_eq_false, not_false_eq_true, e1', hn]
      · have hn := in_iI (a := z) (b := 0) (c := 9) (by omega) (by omega) (by omega) (by omega) (by omega) (by omega)
        rw [if_neg hr] at hn
        simp (disch := omega) only [↓bd_e, ↓jn_e, ↓opt_bind, ↓reduceIte, iLeT, iLeF, iLtT, iLtF, iEqT, iEqF, il_0, il_1, il_2, il_3, il_4, il_5, il_6, il_7, il_8, il_9, il_10, il_11, il_12, il_13, il_14, il_15, il_16, il_18, il_20, il_24, il_32, il_35, il_40, il_44, il_47, il_48, il_56, il_57, il_58, il_59, il_63, il_64, il_72, il_100, il_120, il_126, il_127, il_160, il_192, il_255, il_349, il_1748, il_6992, iI_add, iI_sub, iI_mul, iI_neg, iI_le, iI_lt, iI_eq, rd_lA, wr_lA, rd_lR, wr_lR, ite_iI, max_iI, min_iI, rem_iI, div_iI, ite_true, ite_false, if_true, if_false, ite_self, and_self, and_true, true_and, and_false, false_and, or_self, or_true, true_or, or_false, false_or, not_true_eq_false, not_false_eq_true, e2, hn]
  · refine ⟨iI (-1), V, c, S, d, l, p, H0, H1, H2, H3, H4, P, ?_, ?_, h, Or.inl ⟨rfl, rfl⟩⟩
    · simp (disch := omega) only [↓bd_e, ↓jn_e, ↓opt_bind, ↓reduceIte, iLeT, iLeF, iLtT, iLtF, iEqT, iEqF, il_0, il_1, il_2, il_3, il_4, il_5, il_6, il_7, il_8, il_9, il_10, il_11, il_12, il_13, il_14, il_15, il_16, il_18, il_20, il_24, il_32, il_35, il_40, il_44, il_47, il_48, il_56, il_57, il_58, il_59, il_63, il_64, il_72, il_100, il_120, il_126, il_127, il_160, il_192, il_255, il_349, il_1748, il_6992, iI_add, iI_sub, iI_mul, iI_neg, iI_le, iI_lt, iI_eq, rd_lA, wr_lA, rd_lR, wr_lR, ite_iI, max_iI, min_iI, rem_iI, div_iI, ite_true, ite_false, if_true, if_false, ite_self, and_self, and_true, true_and, and_false, false_and, or_self, or_true, true_or, or_false, false_or, not_true_eq_false, not_false_eq_true, e1']
    · simp (disch := omega) only [↓bd_e, ↓jn_e, ↓opt_bind, ↓reduceIte, iLeT, iLeF, iLtT, iLtF, iEqT, iEqF, il_0, il_1, il_2, il_3, il_4, il_5, il_6, il_7, il_8, il_9, il_10, il_11, il_12, il_13, il_14, il_15, il_16, il_18, il_20, il_24, il_32, il_35, il_40, il_44, il_47, il_48, il_56, il_57, il_58, il_59, il_63, il_64, il_72, il_100, il_120, il_126, il_127, il_160, il_192, il_255, il_349, il_1748, il_6992, iI_add, iI_sub, iI_mul, iI_neg, iI_le, iI_lt, iI_eq, rd_lA, wr_lA, rd_lR, wr_lR, ite_iI, max_iI, min_iI, rem_iI, div_iI, ite_true, ite_false, if_true, if_false, ite_self, and_self, and_true, true_and, and_false, false_and, or_self, or_true, true_or, or_false, false_or, not_true_eq_false, not_false_eq_true, e2]
