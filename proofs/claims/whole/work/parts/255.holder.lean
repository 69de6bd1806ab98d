theorem x_trimWidth {V : Int → Int} {c : Nat → Int → Int} {S : Nat → Nat → Int32} {d : Nat → Int → Int} {l p : Int} {F : Int → Nat → Nat → Int32} {P : Int → Int} (h : stI V c S d l p F P) (bx bY : Int32) (cm : Nat → Int → Int) {i : Int} (hir : -2147483648 ≤ i ∧ i < 2147483648) :
    ∃ (a bx' bY' : Int32) (cm' : Nat → Int → Int), f_X10_trimWidth S (lA (d 2)) (iI i) = some a ∧ f_X11_trimWidth bx bY (lA V) (lA (cm 0)) (lA (cm 1)) (lA (cm 2)) (lA (cm 3)) (lA (cm 4)) (lA (cm 5)) (iI i) = some (a, bx', bY', lA (cm' 0), lA (cm' 1), lA (cm' 2), lA (cm' 3), lA (cm' 4), lA (cm' 5)) := by
  obtain ⟨g1, g2, g3, g4, g5⟩ := id h
  obtain ⟨go, gs, gi, gp, gg⟩ := id g1
  have hn := gi.1
  have h78 : (0 ≤ V 7 ∧ V 7 ≤ 1) ∧ (0 ≤ V 8 ∧ V 8 ≤ 3) := by unfold vSet at gs; omega
  unfold f_X10_trimWidth f_X11_trimWidth
  rw [g2.1.1, c_has hn hir, m_isSprite hn hir, opt_bind, show (-1 : Int32) = iI (-1) by decide +kernel]
  by_cases h1 : 0 ≤ i ∧ i < V 0
  · rw [if_pos h1, if_neg (by decide +kernel : ¬ iI 1 = (0 : Int32)), if_neg (by decide +kernel : ¬ iI 1 = (0 : Int32))]
    obtain ⟨bx', bY', c', k1, k2⟩ := m_knows gi h78 cm bx bY
    have hcr := (cat_r gi g3 i h1.1 h1.2).1.1
    obtain ⟨-, -, d0, -⟩ := vDd_cEq (vCat_uniq g3 k2) h1.1 h1.2 hcr (g4 i h1.1 h1.2)
    rw [k1, opt_bind, rd_lA (d 2) _ (by omega) (by omega) (by omega), d0]
    refine ⟨_, bx', bY', c', rfl, ?_⟩
    rw [rd_lA _ _ (by omega) (by omega) (by omega)]
  · rw [if_neg h1, if_pos (by decide +kernel : iI 0 = (0 : Int32)), if_pos (by decide +kernel : iI 0 = (0 : Int32))]
    exact ⟨_, bx, bY, cm, rfl, rfl⟩
theorem x_trimHeight {V : Int → Int} {c : Nat → Int → Int} {S : Nat → Nat → Int32} {d : Nat → Int → Int} {l p : Int} {F : Int → Nat → Nat → Int32} {P : Int → Int} (h : stI V c S d l p F P) (bx bY : Int32) (cm : Nat → Int → Int) {i : Int} (hir : -2147483648 ≤ i ∧ i < 2147483648) :
    ∃ (a bx' bY' : Int32) (cm' : Nat → Int → Int), f_X10_trimHeight S (lA (d 3)) (iI i) = some a ∧ f_X11_trimHeight bx bY (lA V) (lA (cm 0)) (lA (cm 1)) (lA (cm 2)) (lA (cm 3)) (lA (cm 4)) (lA (cm 5)) (iI i) = some (a, bx', bY', lA (cm' 0), lA (cm' 1), lA (cm' 2), lA (cm' 3), lA (cm' 4), lA (cm' 5)) := by
  obtain ⟨g1, g2, g3, g4, g5⟩ := id h
  obtain ⟨go, gs, gi, gp, gg⟩ := id g1
  have hn := gi.1
  have h78 : (0 ≤ V 7 ∧ V 7 ≤ 1) ∧ (0 ≤ V 8 ∧ V 8 ≤ 3) := by unfold vSet at gs; omega
  unfold f_X10_trimHeight f_X11_trimHeight
  rw [g2.1.1, c_has hn hir, m_isSprite hn hir, opt_bind, show (-1 : Int32) = iI (-1) by decide +kernel]
  by_cases h1 : 0 ≤ i ∧ i < V 0
  · rw [if_pos h1, if_neg (by decide +kernel : ¬ iI 1 = (0 : Int32)), if_neg (by decide +kernel : ¬ iI 1 = (0 : Int32))]
    obtain ⟨bx', bY', c', k1, k2⟩ := m_knows gi h78 cm bx bY
    have hcr := (cat_r gi g3 i h1.1 h1.2).1.1
    obtain ⟨-, -, -, d0, -⟩ := vDd_cEq (vCat_uniq g3 k2) h1.1 h1.2 hcr (g4 i h1.1 h1.2)
    rw [k1, opt_bind, rd_lA (d 3) _ (by omega) (by omega) (by omega), d0]
    refine ⟨_, bx', bY', c', rfl, ?_⟩
    rw [rd_lA _ _ (by omega) (by omega) (by omega)]
  · rw [if_neg h1, if_pos (by decide +kernel : iI 0 = (0 : Int32)), if_pos (by decide +kernel : iI 0 = (0 : Int32))]
    exact ⟨_, bx, bY, cm, rfl, rfl⟩
/-- the placed sprite that holds the image of sprite i: b, or -1 -/
def hoR (V : Int → Int) (c : Nat → Int → Int) (i b : Int) : Prop := (b = -1 ∨ (0 ≤ b ∧ b < V 0 ∧ 0 ≤ V (20 + 72 * b + 3) ∧ 0 < c 2 b ∧ (b = i ∧ c 4 i = -1 ∨ b = c 4 i)))
theorem x_holder {V : Int → Int} {c : Nat → Int → Int} {S : Nat → Nat → Int32} {d : Nat → Int → Int} {l p : Int} {F : Int → Nat → Nat → Int32} {P : Int → Int} (h : stI V c S d l p F P) (bx bY : Int32) (cm : Nat → Int → Int) {i : Int} (h1 : 0 ≤ i ∧ i < V 0) :
    ∃ (b : Int) (bx' bY' : Int32) (c' : Nat → Int → Int), f_X11_holder bx bY (lA V) (lA (cm 0)) (lA (cm 1)) (lA (cm 2)) (lA (cm 3)) (lA (cm 4)) (lA (cm 5)) (iI i) = some (iI b, bx', bY', lA (c' 0), lA (c' 1), lA (c' 2), lA (c' 3), lA (c' 4), lA (c' 5)) ∧ vCat V c' ∧ hoR V c' i b ∧
      (b = -1 → f_X10_placeOf S (lA (d 2)) (lA (d 4)) (iI i) = some (iI (-4))) ∧ (b ≠ -1 → f_X0_sourceOf (lA (d 2)) (lA (d 4)) (iI i) = some (iI b) ∧ f_X10_placeOf S (lA (d 2)) (lA (d 4)) (iI i) = some (iI (V (20 + 72 * b + 3)))) := by
  obtain ⟨g1, g2, g3, g4, g5⟩ := id h
  obtain ⟨go, gs, gi, gp, gg⟩ := id g1
  have hn := gi.1
  have h3 : V 3 ≤ 4 := by unfold vSet at gs; omega
  have h13 := gp.1
  have h78 : (0 ≤ V 7 ∧ V 7 ≤ 1) ∧ (0 ≤ V 8 ∧ V 8 ≤ 3) := by unfold vSet at gs; omega
  obtain ⟨bx', bY', c', k1, k2⟩ := m_knows gi h78 cm bx bY
  have hcr := (cat_r gi g3 i h1.1 h1.2).1.1
  obtain ⟨hc2, hc4⟩ := cat_r gi k2 i h1.1 h1.2
  obtain ⟨-, -, d2, -, d4, -⟩ := vDd_cEq (vCat_uniq g3 k2) h1.1 h1.2 hcr (g4 i h1.1 h1.2)
  unfold or4 at d4
  have hbl := c_isBlank (d := d) (j := i) (by omega) (by rw [d2]; omega)
  have e8 := g2.2.2.2.2.1
  unfold f_X11_holder f_X11_at f_X10_placeOf f_X0_sourceOf
  rw [k1, opt_bind, hbl, d2, show (-1 : Int32) = iI (-1) by decide +kernel, show (-4 : Int32) = iI (-4) by decide +kernel]
  by_cases z2 : c' 2 i = 0
  · -- blank
    have z4 : c' 4 i = -1 := by
      rcases (k2 i h1.1 h1.2).2 with ⟨q, -⟩ | ⟨q, -⟩
      · omega
      · exact q
    refine ⟨-1, bx', bY', c', ?_, k2, Or.inl rfl, fun _ => ?_, fun q => absurd rfl q⟩
    · simp (disch := omega) only [↓bd_e, ↓jn_e, ↓opt_bind, ↓reduceIte, iLeT, iLeF, iLtT, iLtF, iEqT, iEqF, il_0, il_1, il_2, il_3, il_4, il_5, il_6, il_7, il_8, il_9, il_10, il_11, il_12, il_13, il_14, il_15, il_16, il_18, il_20, il_24, il_32, il_35, il_40, il_44, il_47, il_48, il_56, il_57, il_58, il_59, il_63, il_64, il_72, il_100, il_120, il_126, il_127, il_160, il_192, il_255, il_349, il_1748, il_6992, iI_add, iI_sub, iI_mul, iI_neg, iI_le, iI_lt, iI_eq, rd_lA, wr_lA, rd_lR, wr_lR, ite_iI, max_iI, min_iI, rem_iI, div_iI, ite_true, ite_false, if_true, if_false, ite_self, and_self, and_true, true_and, and_false, false_and, or_self, or_true, true_or, or_false, false_or, not_true_eq_false, not_false_eq_true, z4, z2]
    · simp (disch := omega) only [↓bd_e, ↓jn_e, ↓opt_bind, ↓reduceIte, iLeT, iLeF, iLtT, iLtF, iEqT, iEqF, il_0, il_1, il_2, il_3, il_4, il_5, il_6, il_7, il_8, il_9, il_10, il_11, il_12, il_13, il_14, il_15, il_16, il_18, il_20, il_24, il_32, il_35, il_40, il_44, il_47, il_48, il_56, il_57, il_58, il_59, il_63, il_64, il_72, il_100, il_120, il_126, il_127, il_160, il_192, il_255, il_349, il_1748, il_6992, iI_add, iI_sub, iI_mul, iI_neg, iI_le, iI_lt, iI_eq, rd_lA, wr_lA, rd_lR, wr_lR, ite_iI, max_iI, min_iI, rem_iI, div_iI, ite_true, ite_false, if_true, if_false, ite_self, and_self, and_true, true_and, and_false, false_and, or_self, or_true, true_or, or_false, false_or, not_true_eq_false, not_false_eq_true, z2]
  · by_cases z4 : c' 4 i = -1
    · rw [if_pos z4] at d4
      have hpi := gp.2.1 i h1.1 h1.2
      by_cases hp : 0 ≤ V (20 + 72 * i + 3)
      · refine ⟨i, bx', bY', c', ?_, k2, Or.inr ⟨h1.1, h1.2, hp, by omega, Or.inl ⟨rfl, z4⟩⟩, fun q => by omega, fun _ => ⟨?_, ?_⟩⟩
        · simp (disch := omega) only [↓bd_e, ↓jn_e, ↓opt_bind, ↓reduceIte, iLeT, iLeF, iLtT, iLtF, iEqT, iEqF, il_0, il_1, il_2, il_3, il_4, il_5, il_6, il_7, il_8, il_9, il_10, il_11, il_12, il_13, il_14, il_15, il_16, il_18, il_20, il_24, il_32, il_35, il_40, il_44, il_47, il_48, il_56, il_57, il_58, il_59, il_63, il_64, il_72, il_100, il_120, il_126, il_127, il_160, il_192, il_255, il_349, il_1748, il_6992, iI_add, iI_sub, iI_mul, iI_neg, iI_le, iI_lt, iI_eq, rd_lA, wr_lA, rd_lR, wr_lR, ite_iI, max_iI, min_iI, rem_iI, div_iI, ite_true, ite_false, if_true, if_false, ite_self, and_self, and_true, true_and, and_false, false_and, or_self, or_true, true_or, or_false, false_or, not_true_eq_false, not_false_eq_true, z4]
        · simp (disch := omega) only [↓bd_e, ↓jn_e, ↓opt_bind, ↓reduceIte, iLeT, iLeF, iLtT, iLtF, iEqT, iEqF, il_0, il_1, il_2, il_3, il_4, il_5, il_6, il_7, il_8, il_9, il_10, il_11, il_12, il_13, il_14, il_15, il_16, il_18, il_20, il_24, il_32, il_35, il_40, il_44, il_47, il_48, il_56, il_57, il_58, il_59, il_63, il_64, il_72, il_100, il_120, il_126, il_127, il_160, il_192, il_255, il_349, il_1748, il_6992, iI_add, iI_sub, iI_mul, iI_neg, iI_le, iI_lt, iI_eq, rd_lA, wr_lA, rd_lR, wr_lR, ite_iI, max_iI, min_iI, rem_iI, div_iI, ite_true, ite_false, if_true, if_false, ite_self, and_self, and_true, true_and, and_false, false_and, or_self, or_true, true_or, or_false, false_or, not_true_eq_false, not_false_eq_true, z2, d4]
        · have := e8 i h1.1 (by omega)
          rw [if_pos ⟨h1.2, hp⟩] at this
          rw [sA_lA S 8]
          simp (disch := omega) only [↓bd_e, ↓jn_e, ↓opt_bind, ↓reduceIte, iLeT, iLeF, iLtT, iLtF, iEqT, iEqF, il_0, il_1, il_2, il_3, il_4, il_5, il_6, il_7, il_8, il_9, il_10, il_11, il_12, il_13, il_14, il_15, il_16, il_18, il_20, il_24, il_32, il_35, il_40, il_44, il_47, il_48, il_56, il_57, il_58, il_59, il_63, il_64, il_72, il_100, il_120, il_126, il_127, il_160, il_192, il_255, il_349, il_1748, il_6992, iI_add, iI_sub, iI_mul, iI_neg, iI_le, iI_lt, iI_eq, rd_lA, wr_lA, rd_lR, wr_lR, ite_iI, max_iI, min_iI, rem_iI, div_iI, ite_true, ite_false, if_true, if_false, ite_self, and_self, and_true, true_and, and_false, false_and, or_self, or_true, true_or, or_false, false_or, not_true_eq_false, not_false_eq_true, z2, d4, this]
      · refine ⟨-1, bx', bY', c', ?_, k2, Or.inl rfl, fun _ => ?_, fun q => absurd rfl q⟩
        · simp (disch := omega) only [↓bd_e, ↓jn_e, ↓opt_bind, ↓reduceIte, iLeT, iLeF, iLtT, iLtF, iEqT, iEqF, il_0, il_1, il_2, il_3, il_4, il_5, il_6, il_7, il_8, il_9, il_10, il_11, il_12, il_13, il_14, il_15, il_16, il_18, il_20, il_24, il_32, il_35, il_40, il_44, il_47, il_48, il_56, il_57, il_58, il_59, il_63, il_64, il_72, il_100, il_120, il_126, il_127, il_160, il_192, il_255, il_349, il_1748, il_6992, iI_add, iI_sub, iI_mul, iI_neg, iI_le, iI_lt, iI_eq, rd_lA, wr_lA, rd_lR, wr_lR, ite_iI, max_iI, min_iI, rem_iI, div_iI, ite_true, ite_false, if_true, if_false, ite_self, and_self, and_true, true_and, and_false, false_and, or_self, or_true, true_or, or_false, false_or, not_true_eq_false, not_false_eq_true, z4]
        · have := e8 i h1.1 (by omega)
          rw [if_neg (by omega)] at this
          rw [sA_lA S 8]
          simp (disch := omega) only [↓bd_e, ↓jn_e, ↓opt_bind, ↓reduceIte, iLeT, iLeF, iLtT, iLtF, iEqT, iEqF, il_0, il_1, il_2, il_3, il_4, il_5, il_6, il_7, il_8, il_9, il_10, il_11, il_12, il_13, il_14, il_15, il_16, il_18, il_20, il_24, il_32, il_35, il_40, il_44, il_47, il_48, il_56, il_57, il_58, il_59, il_63, il_64, il_72, il_100, il_120, il_126, il_127, il_160, il_192, il_255, il_349, il_1748, il_6992, iI_add, iI_sub, iI_mul, iI_neg, iI_le, iI_lt, iI_eq, rd_lA, wr_lA, rd_lR, wr_lR, ite_iI, max_iI, min_iI, rem_iI, div_iI, ite_true, ite_false, if_true, if_false, ite_self, and_self, and_true, true_and, and_false, false_and, or_self, or_true, true_or, or_false, false_or, not_true_eq_false, not_false_eq_true, z2, d4, this]
    · rw [if_neg z4] at d4
      have hcp : vCp V c' i (c' 4 i) (c' 5 i) := by
        rcases (k2 i h1.1 h1.2).2 with ⟨-, q, -⟩ | ⟨q, -⟩
        · exact q
        · exact absurd q z4
      obtain ⟨o0, o1, -, -, o2, -⟩ := hcp
      have hco := (cat_r gi k2 (c' 4 i) o0 (by omega)).1
      have hpi := gp.2.1 (c' 4 i) o0 (by omega)
      by_cases hp : 0 ≤ V (20 + 72 * ((c' 4 i)) + 3)
      · refine ⟨c' 4 i, bx', bY', c', ?_, k2, Or.inr ⟨o0, by omega, hp, o2, Or.inr rfl⟩, fun q => by omega, fun _ => ⟨?_, ?_⟩⟩
        · simp (disch := omega) only [↓bd_e, ↓jn_e, ↓opt_bind, ↓reduceIte, iLeT, iLeF, iLtT, iLtF, iEqT, iEqF, il_0, il_1, il_2, il_3, il_4, il_5, il_6, il_7, il_8, il_9, il_10, il_11, il_12, il_13, il_14, il_15, il_16, il_18, il_20, il_24, il_32, il_35, il_40, il_44, il_47, il_48, il_56, il_57, il_58, il_59, il_63, il_64, il_72, il_100, il_120, il_126, il_127, il_160, il_192, il_255, il_349, il_1748, il_6992, iI_add, iI_sub, iI_mul, iI_neg, iI_le, iI_lt, iI_eq, rd_lA, wr_lA, rd_lR, wr_lR, ite_iI, max_iI, min_iI, rem_iI, div_iI, ite_true, ite_false, if_true, if_false, ite_self, and_self, and_true, true_and, and_false, false_and, or_self, or_true, true_or, or_false, false_or, not_true_eq_false, not_false_eq_true]
        · simp (disch := omega) only [↓bd_e, ↓jn_e, ↓opt_bind, ↓reduceIte, iLeT, iLeF, iLtT, iLtF, iEqT, iEqF, il_0, il_1, il_2, il_3, il_4, il_5, il_6, il_7, il_8, il_9, il_10, il_11, il_12, il_13, il_14, il_15, il_16, il_18, il_20, il_24, il_32, il_35, il_40, il_44, il_47, il_48, il_56, il_57, il_58, il_59, il_63, il_64, il_72, il_100, il_120, il_126, il_127, il_160, il_192, il_255, il_349, il_1748, il_6992, iI_add, iI_sub, iI_mul, iI_neg, iI_le, iI_lt, iI_eq, rd_lA, wr_lA, rd_lR, wr_lR, ite_iI, max_iI, min_iI, rem_iI, div_iI, ite_true, ite_false, if_true, if_false, ite_self, and_self, and_true, true_and, and_false, false_and, or_self, or_true, true_or, or_false, false_or, not_true_eq_false, not_false_eq_true, z2, d4]
        · have := e8 (c' 4 i) o0 (by omega)
          rw [if_pos ⟨by omega, hp⟩] at this
          rw [sA_lA S 8]
          simp (disch := omega) only [↓bd_e, ↓jn_e, ↓opt_bind, ↓reduceIte, iLeT, iLeF, iLtT, iLtF, iEqT, iEqF, il_0, il_1, il_2, il_3, il_4, il_5, il_6, il_7, il_8, il_9, il_10, il_11, il_12, il_13, il_14, il_15, il_16, il_18, il_20, il_24, il_32, il_35, il_40, il_44, il_47, il_48, il_56, il_57, il_58, il_59, il_63, il_64, il_72, il_100, il_120, il_126, il_127, il_160, il_192, il_255, il_349, il_1748, il_6992, iI_add, iI_sub, iI_mul, iI_neg, iI_le, iI_lt, iI_eq, rd_lA, wr_lA, rd_lR, wr_lR, ite_iI, max_iI, min_iI, rem_iI, div_iI, ite_true, ite_false, if_true, if_false, ite_self, and_self, and_true, true_and, and_false, false_and, or_self, or_true, true_or, or_false, false_or, not_true_eq_false, not_false_eq_true, z2, d4, this]
      · refine ⟨-1, bx', bY', c', ?_, k2, Or.inl rfl, fun _ => ?_, fun q => absurd rfl q⟩
        · simp (disch := omega) only [↓bd_e, ↓jn_e, ↓opt_bind, ↓reduceIte, iLeT, iLeF, iLtT, iLtF, iEqT, iEqF, il_0, il_1, il_2, il_3, il_4, il_5, il_6, il_7, il_8, il_9, il_10, il_11, il_12, il_13, il_14, il_15, il_16, il_18, il_20, il_24, il_32, il_35, il_40, il_44, il_47, il_48, il_56, il_57, il_58, il_59, il_63, il_64, il_72, il_100, il_120, il_126, il_127, il_160, il_192, il_255, il_349, il_1748, il_6992, iI_add, iI_sub, iI_mul, iI_neg, iI_le, iI_lt, iI_eq, rd_lA, wr_lA, rd_lR, wr_lR, ite_iI, max_iI, min_iI, rem_iI, div_iI, ite_true, ite_false, if_true, if_false, ite_self, and_self, and_true, true_and, and_false, false_and, or_self, or_true, true_or, or_false, false_or, not_true_eq_false, not_false_eq_true]
        · have := e8 (c' 4 i) o0 (by omega)
          rw [if_neg (by omega)] at this
          rw [sA_lA S 8]
          simp (disch := omega) only [↓bd_e, ↓jn_e, ↓opt_bind, ↓reduceIte, iLeT, iLeF, iLtT, iLtF, iEqT, iEqF, il_0, il_1, il_2, il_3, il_4, il_5, il_6, il_7, il_8, il_9, il_10, il_11, il_12, il_13, il_14, il_15, il_16, il_18, il_20, il_24, il_32, il_35, il_40, il_44, il_47, il_48, il_56, il_57, il_58, il_59, il_63, il_64, il_72, il_100, il_120, il_126, il_127, il_160, il_192, il_255, il_349, il_1748, il_6992, iI_add, iI_sub, iI_mul, iI_neg, iI_le, iI_lt, iI_eq, rd_lA, wr_lA, rd_lR, wr_lR, ite_iI, max_iI, min_iI, rem_iI, div_iI, ite_true, ite_false, if_true, if_false, ite_self, and_self, and_true, true_and, and_false, false_and, or_self, or_true, true_or, or_false, false_or, not_true_eq_false, not_false_eq_true, z2, d4, this]
