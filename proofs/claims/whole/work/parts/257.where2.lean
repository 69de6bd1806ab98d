theorem x_xOf {V : Int → Int} {c : Nat → Int → Int} {S : Nat → Nat → Int32} {d : Nat → Int → Int} {l p : Int} {F : Int → Nat → Nat → Int32} {P : Int → Int} (h : stI V c S d l p F P) (bx bY : Int32) (cm : Nat → Int → Int) {i : Int} (hir : -2147483648 ≤ i ∧ i < 2147483648) :
    ∃ (a bx' bY' : Int32) (cm' : Nat → Int → Int), f_X10_xOf S (lA (d 2)) (lA (d 4)) (iI i) = some a ∧ f_X11_xOf bx bY (lA V) (lA (cm 0)) (lA (cm 1)) (lA (cm 2)) (lA (cm 3)) (lA (cm 4)) (lA (cm 5)) (iI i) = some (a, bx', bY', lA (cm' 0), lA (cm' 1), lA (cm' 2), lA (cm' 3), lA (cm' 4), lA (cm' 5)) := by
  obtain ⟨g1, g2, g3, g4, g5⟩ := id h
  have hn := g1.2.2.1.1
  unfold f_X10_xOf f_X11_xOf f_X3_imageColumn f_X11_columnOf f_X11_at
  rw [g2.1.1, c_has hn hir, m_isSprite hn hir, opt_bind, show (-1 : Int32) = iI (-1) by decide +kernel, show (-4 : Int32) = iI (-4) by decide +kernel, show (-2 : Int32) = iI (-2) by decide +kernel]
  by_cases h1 : 0 ≤ i ∧ i < V 0
  · obtain ⟨b, bx', bY', c', k1, k2, k3, k4, k5⟩ := x_holder h bx bY cm h1
    rw [if_pos h1, if_neg (by decide +kernel : ¬ iI 1 = (0 : Int32))]
    by_cases hb : b = -1
    · refine ⟨iI (-4), bx', bY', c', ?_, ?_⟩
      · rw [k4 hb, opt_bind, if_pos rfl]
      · simp (disch := omega) only [↓bd_e, ↓jn_e, ↓opt_bind, ↓reduceIte, iLeT, iLeF, iLtT, iLtF, iEqT, iEqF, il_0, il_1, il_2, il_3, il_4, il_5, il_6, il_7, il_8, il_9, il_10, il_11, il_12, il_13, il_14, il_15, il_16, il_18, il_20, il_24, il_32, il_35, il_40, il_44, il_47, il_48, il_56, il_57, il_58, il_59, il_63, il_64, il_72, il_100, il_120, il_126, il_127, il_160, il_192, il_255, il_349, il_1748, il_6992, iI_add, iI_sub, iI_mul, iI_neg, iI_le, iI_lt, iI_eq, rd_lA, wr_lA, rd_lR, wr_lR, ite_iI, max_iI, min_iI, rem_iI, div_iI, ite_true, ite_false, if_true, if_false, ite_self, and_self, and_true, true_and, and_false, false_and, or_self, or_true, true_or, or_false, false_or, not_true_eq_false, not_false_eq_true, k1, hb]
    · rcases k3 with k3 | ⟨b0, b1, b2, -⟩
      · exact absurd k3 hb
      · have hp := g1.2.2.2.1.2.1 b b0 b1
        have h13 := g1.2.2.2.1.1
        have hv := g1.2.1
        have h5 : 0 ≤ V 5 ∧ V 5 ≤ 3 ∧ 0 ≤ V 6 ∧ V 6 ≤ 2 ∧ V 3 ≤ 4 := by unfold vSet at hv; omega
        have e := ((g2.2.2.1 b b0 b1).2.2.2.2 b2).1
        have e4 : S 5 4 = iI (V 5) := g2.2.1 4 (by omega)
        have e5 : S 5 5 = iI (V 6) := g2.2.1 5 (by omega)
        refine ⟨iI (V (20 + 72 * b + 4) + V 5 + V 6), bx', bY', c', ?_, ?_⟩
        · rw [(k5 hb).2, opt_bind, if_neg (by rw [iI_eq (by omega) (by omega) (by omega) (by omega)]; omega), (k5 hb).1, opt_bind, e4, e5, sA_lA S 9]
          simp (disch := omega) only [↓bd_e, ↓jn_e, ↓opt_bind, ↓reduceIte, iLeT, iLeF, iLtT, iLtF, iEqT, iEqF, il_0, il_1, il_2, il_3, il_4, il_5, il_6, il_7, il_8, il_9, il_10, il_11, il_12, il_13, il_14, il_15, il_16, il_18, il_20, il_24, il_32, il_35, il_40, il_44, il_47, il_48, il_56, il_57, il_58, il_59, il_63, il_64, il_72, il_100, il_120, il_126, il_127, il_160, il_192, il_255, il_349, il_1748, il_6992, iI_add, iI_sub, iI_mul, iI_neg, iI_le, iI_lt, iI_eq, rd_lA, wr_lA, rd_lR, wr_lR, ite_iI, max_iI, min_iI, rem_iI, div_iI, ite_true, ite_false, if_true, if_false, ite_self, and_self, and_true, true_and, and_false, false_and, or_self, or_true, true_or, or_false, false_or, not_true_eq_false, not_false_eq_true, e]
        · simp (disch := omega) only [↓bd_e, ↓jn_e, ↓opt_bind, ↓reduceIte, iLeT, iLeF, iLtT, iLtF, iEqT, iEqF, il_0, il_1, il_2, il_3, il_4, il_5, il_6, il_7, il_8, il_9, il_10, il_11, il_12, il_13, il_14, il_15, il_16, il_18, il_20, il_24, il_32, il_35, il_40, il_44, il_47, il_48, il_56, il_57, il_58, il_59, il_63, il_64, il_72, il_100, il_120, il_126, il_127, il_160, il_192, il_255, il_349, il_1748, il_6992, iI_add, iI_sub, iI_mul, iI_neg, iI_le, iI_lt, iI_eq, rd_lA, wr_lA, rd_lR, wr_lR, ite_iI, max_iI, min_iI, rem_iI, div_iI, ite_true, ite_false, if_true, if_false, ite_self, and_self, and_true, true_and, and_false, false_and, or_self, or_true, true_or, or_false, false_or, not_true_eq_false, not_false_eq_true, k1]
  · rw [if_neg h1, if_pos (by decide +kernel : iI 0 = (0 : Int32))]
    refine ⟨iI (-1), bx, bY, cm, rfl, ?_⟩
    simp (disch := omega) only [↓bd_e, ↓jn_e, ↓opt_bind, ↓reduceIte, iLeT, iLeF, iLtT, iLtF, iEqT, iEqF, il_0, il_1, il_2, il_3, il_4, il_5, il_6, il_7, il_8, il_9, il_10, il_11, il_12, il_13, il_14, il_15, il_16, il_18, il_20, il_24, il_32, il_35, il_40, il_44, il_47, il_48, il_56, il_57, il_58, il_59, il_63, il_64, il_72, il_100, il_120, il_126, il_127, il_160, il_192, il_255, il_349, il_1748, il_6992, iI_add, iI_sub, iI_mul, iI_neg, iI_le, iI_lt, iI_eq, rd_lA, wr_lA, rd_lR, wr_lR, ite_iI, max_iI, min_iI, rem_iI, div_iI, ite_true, ite_false, if_true, if_false, ite_self, and_self, and_true, true_and, and_false, false_and, or_self, or_true, true_or, or_false, false_or, not_true_eq_false, not_false_eq_true]
theorem x_yOf {V : Int → Int} {c : Nat → Int → Int} {S : Nat → Nat → Int32} {d : Nat → Int → Int} {l p : Int} {F : Int → Nat → Nat → Int32} {P : Int → Int} (h : stI V c S d l p F P) (bx bY : Int32) (cm : Nat → Int → Int) {i : Int} (hir : -2147483648 ≤ i ∧ i < 2147483648) :
    ∃ (a bx' bY' : Int32) (cm' : Nat → Int → Int), f_X10_yOf S (lA (d 2)) (lA (d 4)) (iI i) = some a ∧ f_X11_yOf bx bY (lA V) (lA (cm 0)) (lA (cm 1)) (lA (cm 2)) (lA (cm 3)) (lA (cm 4)) (lA (cm 5)) (iI i) = some (a, bx', bY', lA (cm' 0), lA (cm' 1), lA (cm' 2), lA (cm' 3), lA (cm' 4), lA (cm' 5)) := by
  obtain ⟨g1, g2, g3, g4, g5⟩ := id h
  have hn := g1.2.2.1.1
  unfold f_X10_yOf f_X11_yOf f_X3_imageRow f_X11_rowOf f_X11_at
  rw [g2.1.1, c_has hn hir, m_isSprite hn hir, opt_bind, show (-1 : Int32) = iI (-1) by decide +kernel, show (-4 : Int32) = iI (-4) by decide +kernel, show (-2 : Int32) = iI (-2) by decide +kernel]
  by_cases h1 : 0 ≤ i ∧ i < V 0
  · obtain ⟨b, bx', bY', c', k1, k2, k3, k4, k5⟩ := x_holder h bx bY cm h1
    rw [if_pos h1, if_neg (by decide +kernel : ¬ iI 1 = (0 : Int32))]
    by_cases hb : b = -1
    · refine ⟨iI (-4), bx', bY', c', ?_, ?_⟩
      · rw [k4 hb, opt_bind, if_pos rfl]
      · simp (disch := omega) only [↓bd_e, ↓jn_e, ↓opt_bind, ↓reduceIte, iLeT, iLeF, iLtT, iLtF, iEqT, iEqF, il_0, il_1, il_2, il_3, il_4, il_5, il_6, il_7, il_8, il_9, il_10, il_11, il_12, il_13, il_14, il_15, il_16, il_18, il_20, il_24, il_32, il_35, il_40, il_44, il_47, il_48, il_56, il_57, il_58, il_59, il_63, il_64, il_72, il_100, il_120, il_126, il_127, il_160, il_192, il_255, il_349, il_1748, il_6992, iI_add, iI_sub, iI_mul, iI_neg, iI_le, iI_lt, iI_eq, rd_lA, wr_lA, rd_lR, wr_lR, ite_iI, max_iI, min_iI, rem_iI, div_iI, ite_true, ite_false, if_true, if_false, ite_self, and_self, and_true, true_and, and_false, false_and, or_self, or_true, true_or, or_false, false_or, not_true_eq_false, not_false_eq_true, k1, hb]
    · rcases k3 with k3 | ⟨b0, b1, b2, -⟩
      · exact absurd k3 hb
      · have hp := g1.2.2.2.1.2.1 b b0 b1
        have h13 := g1.2.2.2.1.1
        have hv := g1.2.1
        have h5 : 0 ≤ V 5 ∧ V 5 ≤ 3 ∧ 0 ≤ V 6 ∧ V 6 ≤ 2 ∧ V 3 ≤ 4 := by unfold vSet at hv; omega
        have e := ((g2.2.2.1 b b0 b1).2.2.2.2 b2).2.1
        have e4 : S 5 4 = iI (V 5) := g2.2.1 4 (by omega)
        have e5 : S 5 5 = iI (V 6) := g2.2.1 5 (by omega)
        refine ⟨iI (V (20 + 72 * b + 5) + V 5 + V 6), bx', bY', c', ?_, ?_⟩
        · rw [(k5 hb).2, opt_bind, if_neg (by rw [iI_eq (by omega) (by omega) (by omega) (by omega)]; omega), (k5 hb).1, opt_bind, e4, e5, sA_lA S 10]
          simp (disch := omega) only [↓bd_e, ↓jn_e, ↓opt_bind, ↓reduceIte, iLeT, iLeF, iLtT, iLtF, iEqT, iEqF, il_0, il_1, il_2, il_3, il_4, il_5, il_6, il_7, il_8, il_9, il_10, il_11, il_12, il_13, il_14, il_15, il_16, il_18, il_20, il_24, il_32, il_35, il_40, il_44, il_47, il_48, il_56, il_57, il_58, il_59, il_63, il_64, il_72, il_100, il_120, il_126, il_127, il_160, il_192, il_255, il_349, il_1748, il_6992, iI_add, iI_sub, iI_mul, iI_neg, iI_le, iI_lt, iI_eq, rd_lA, wr_lA, rd_lR, wr_lR, ite_iI, max_iI, min_iI, rem_iI, div_iI, ite_true, ite_false, if_true, if_false, ite_self, and_self, and_true, true_and, and_false, false_and, or_self, or_true, true_or, or_false, false_or, not_true_eq_false, not_false_eq_true, e]
        · simp (disch := omega) only [↓bd_e, ↓jn_e, ↓opt_bind, ↓reduceIte, iLeT, iLeF, iLtT, iLtF, iEqT, iEqF, il_0, il_1, il_2, il_3, il_4, il_5, il_6, il_7, il_8, il_9, il_10, il_11, il_12, il_13, il_14, il_15, il_16, il_18, il_20, il_24, il_32, il_35, il_40, il_44, il_47, il_48, il_56, il_57, il_58, il_59, il_63, il_64, il_72, il_100, il_120, il_126, il_127, il_160, il_192, il_255, il_349, il_1748, il_6992, iI_add, iI_sub, iI_mul, iI_neg, iI_le, iI_lt, iI_eq, rd_lA, wr_lA, rd_lR, wr_lR, ite_iI, max_iI, min_iI, rem_iI, div_iI, ite_true, ite_false, if_true, if_false, ite_self, and_self, and_true, true_and, and_false, false_and, or_self, or_true, true_or, or_false, false_or, not_true_eq_false, not_false_eq_true, k1]
  · rw [if_neg h1, if_pos (by decide +kernel : iI 0 = (0 : Int32))]
    refine ⟨iI (-1), bx, bY, cm, rfl, ?_⟩
    simp (disch := omega) only [↓bd_e, ↓jn_e, ↓opt_bind, ↓reduceIte, iLeT, iLeF, iLtT, iLtF, iEqT, iEqF, il_0, il_1, il_2, il_3, il_4, il_5, il_6, il_7, il_8, il_9, il_10, il_11, il_12, il_13, il_14, il_15, il_16, il_18, il_20, il_24, il_32, il_35, il_40, il_44, il_47, il_48, il_56, il_57, il_58, il_59, il_63, il_64, il_72, il_100, il_120, il_126, il_127, il_160, il_192, il_255, il_349, il_1748, il_6992, iI_add, iI_sub, iI_mul, iI_neg, iI_le, iI_lt, iI_eq, rd_lA, wr_lA, rd_lR, wr_lR, ite_iI, max_iI, min_iI, rem_iI, div_iI, ite_true, ite_false, if_true, if_false, ite_self, and_self, and_true, true_and, and_false, false_and, or_self, or_true, true_or, or_false, false_or, not_true_eq_false, not_false_eq_true]
