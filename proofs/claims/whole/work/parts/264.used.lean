theorem im_in {V : Int → Int} {c : Nat → Int → Int} (hs : vSet V) (hbl : ∀ j, 0 ≤ j → j < V 0 → vBl V c j) (hg : vGeo V c) {s : Int} (s0 : 0 ≤ s) (s1 : s < V 0) (s2 : 0 ≤ V (20 + 72 * s + 3)) : imX V s + imW V c s + V 6 ≤ V 1 - V 5 ∧ imY V s + imH V c s + V 6 ≤ V 2 - V 5 := by
  obtain ⟨q1, q2, q3, q4, q5, -⟩ := geo_r hs hbl hg s0 s1 s2
  unfold bxW fldW at q3
  unfold bxH fldH at q5
  unfold imX imY imW imH
  by_cases z : V (20 + 72 * s + 6) = 1
  · rw [if_pos z] at q3 q5
    rw [if_pos z, if_pos z]
    omega
  · rw [if_neg z] at q3 q5
    rw [if_neg z, if_neg z]
    omega
/-- what both sides do with the width that is used so far -/
theorem x_usedC {V : Int → Int} {c d : Nat → Int → Int} {S : Nat → Nat → Int32} (hs : vSet V) (hi : vImg V) (hp : vPlc V) (hbl : ∀ j, 0 ≤ j → j < V 0 → vBl V c j) (hg : vGeo V c) (hr : sR V S) (hd : ∀ j, 0 ≤ j → j < V 0 → d 2 j = c 2 j ∧ d 3 j = c 3 j) {p : Int} (p0 : 0 ≤ p ∧ p < 100) :
    ∃ z, (0 ≤ z ∧ z ≤ 32) ∧ f_X3_usedColumns S (lA (d 2)) (lA (d 3)) (iI p) = some (iI z) ∧ f_X11_used (lA V) (lA (c 2)) (lA (c 3)) (iI p) 1 = some (iI z) := by
  have hn := hi.1
  have h3 : V 3 ≤ 4 := by unfold vSet at hs; omega
  have h13 := hp.1
  have e0 : S 0 0 = iI (V 0) := hr.1.1
  have e4 : S 5 4 = iI (V 5) := hr.2.1 4 (by omega)
  have e5 : S 5 5 = iI (V 6) := hr.2.1 5 (by omega)
  have h6 : ((0 ≤ V 5 ∧ V 5 ≤ 3) ∧ (0 ≤ V 6 ∧ V 6 ≤ 2)) ∧ (4 ≤ V 1 ∧ V 1 ≤ 32) ∧ (4 ≤ V 2 ∧ V 2 ≤ 32) := by unfold vSet at hs; omega
  unfold f_X3_usedColumns f_X11_used
  obtain ⟨fu, hfu, hfu2⟩ := fuel_ex; rw [hfu]
  rw [il_5, rd_lA _ _ (by omega) (by omega) (by omega), e4, jn_e, jn_e, il_0]
  refine lpp (fun n s (u : Int) => (f_X3_usedColumns_L13 S (lA (d 2)) (lA (d 3)) (iI p) (fun x1 => some (x1 + iI (V 5))) n (iI u) (iI s), f_X11_used_L10 (lA V) (lA (c 2)) (lA (c 3)) (iI p) 1 (fun x2 => g_rd (lA V) 1748 (iI 5) fun x4 => some (x2 + x4)) n (iI u) (iI s))) (fun r => ∃ z, (0 ≤ z ∧ z ≤ 32) ∧ r.1 = some (iI z) ∧ r.2 = some (iI z)) (V 0) (fun s u => 0 ≤ s ∧ 0 ≤ u ∧ u ≤ max (V 5) (V 1 - V 5)) ?_ ?_ fu 0 (V 5) (by omega) (by omega) (by omega)
  · rintro n u ⟨-, u0, u1⟩
    refine ⟨u + V 5, by omega, ?_, ?_⟩
    · show f_X3_usedColumns_L13 S _ _ _ _ (n + 1) (iI u) (iI (V 0)) = _
      rw [f_X3_usedColumns_L13, e0, if_pos (Int32.le_refl _), iI_add]
    · show f_X11_used_L10 _ _ _ _ _ _ (n + 1) (iI u) (iI (V 0)) = _
      rw [f_X11_used_L10, il_0, rd_lA _ _ (by omega) (by omega) (by omega), if_pos (Int32.le_refl _), rd_lA _ _ (by omega) (by omega) (by omega), iI_add]
  · rintro n s u hs1 ⟨s0, u0, u1⟩ ih
    have hpg := hp.2.1 s s0 hs1
    have e8 := hr.2.2.2.2.1 s s0 (by omega)
    show ∃ z, (0 ≤ z ∧ z ≤ 32) ∧ f_X3_usedColumns_L13 S _ _ _ _ (n + 1) (iI u) (iI s) = _ ∧ f_X11_used_L10 _ _ _ _ _ _ (n + 1) (iI u) (iI s) = _
    rw [f_X3_usedColumns_L13, f_X11_used_L10, e0, e5, sA_lA S 8]
    by_cases hon : V (20 + 72 * s + 3) = p
    · have hpl := plc_of hs hi hbl hg hr hd s0 hs1 (by omega)
      rw [if_pos ⟨hs1, by omega⟩] at e8
      have r := im_r hpl
      have r2 := im_in hs hbl hg s0 hs1 (by omega)
      have a1 := c_imX hpl
      have a3 := c_imW hpl
      have b1 := m_imX (V := V) (s := s) (by omega)
      have b3 := m_imW hpl
      by_cases hu : imX V s + imW V c s + V 6 ≤ u
      · have ih := ih u (by omega)
        simp (disch := omega) only [↓bd_e, ↓jn_e, ↓opt_bind, ↓reduceIte, iLeT, iLeF, iLtT, iLtF, iEqT, iEqF, il_0, il_1, il_2, il_3, il_4, il_5, il_6, il_7, il_8, il_9, il_10, il_11, il_12, il_13, il_14, il_15, il_16, il_18, il_20, il_24, il_32, il_35, il_40, il_44, il_47, il_48, il_56, il_57, il_58, il_59, il_63, il_64, il_72, il_100, il_120, il_126, il_127, il_160, il_192, il_255, il_349, il_1748, il_6992, iI_add, iI_sub, iI_mul, iI_neg, iI_le, iI_lt, iI_eq, rd_lA, wr_lA, rd_lR, wr_lR, ite_iI, max_iI, min_iI, rem_iI, div_iI, ite_true, ite_false, if_true, if_false, ite_self, and_self, and_true, true_and, and_false, false_and, or_self, or_true, true_or, or_false, false_or, not_true_eq_false, not_false_eq_true, e8, a1, a3, f_X11_at, b1, b3]
        rw [show max u (imX V s + imW V c s + V 6) = u by omega]
        exact ih
      · have ih := ih (imX V s + imW V c s + V 6) (by omega)
        simp (disch := omega) only [↓bd_e, ↓jn_e, ↓opt_bind, ↓reduceIte, iLeT, iLeF, iLtT, iLtF, iEqT, iEqF, il_0, il_1, il_2, il_3, il_4, il_5, il_6, il_7, il_8, il_9, il_10, il_11, il_12, il_13, il_14, il_15, il_16, il_18, il_20, il_24, il_32, il_35, il_40, il_44, il_47, il_48, il_56, il_57, il_58, il_59, il_63, il_64, il_72, il_100, il_120, il_126, il_127, il_160, il_192, il_255, il_349, il_1748, il_6992, iI_add, iI_sub, iI_mul, iI_neg, iI_le, iI_lt, iI_eq, rd_lA, wr_lA, rd_lR, wr_lR, ite_iI, max_iI, min_iI, rem_iI, div_iI, ite_true, ite_false, if_true, if_false, ite_self, and_self, and_true, true_and, and_false, false_and, or_self, or_true, true_or, or_false, false_or, not_true_eq_false, not_false_eq_true, e8, a1, a3, f_X11_at, b1, b3]
        rw [show max u (imX V s + imW V c s + V 6) = imX V s + imW V c s + V 6 by omega]
        exact ih
    · have ih := ih u (by omega)
      have e8' : ¬ sA S 8 s = p ∧ -4 ≤ sA S 8 s ∧ sA S 8 s < 100 := by
        rw [e8]
        split <;> omega
      simp (disch := omega) only [↓bd_e, ↓jn_e, ↓opt_bind, ↓reduceIte, iLeT, iLeF, iLtT, iLtF, iEqT, iEqF, il_0, il_1, il_2, il_3, il_4, il_5, il_6, il_7, il_8, il_9, il_10, il_11, il_12, il_13, il_14, il_15, il_16, il_18, il_20, il_24, il_32, il_35, il_40, il_44, il_47, il_48, il_56, il_57, il_58, il_59, il_63, il_64, il_72, il_100, il_120, il_126, il_127, il_160, il_192, il_255, il_349, il_1748, il_6992, iI_add, iI_sub, iI_mul, iI_neg, iI_le, iI_lt, iI_eq, rd_lA, wr_lA, rd_lR, wr_lR, ite_iI, max_iI, min_iI, rem_iI, div_iI, ite_true, ite_false, if_true, if_false, ite_self, and_self, and_true, true_and, and_false, false_and, or_self, or_true, true_or, or_false, false_or, not_true_eq_false, not_false_eq_true, f_X11_at]
      exact ih
theorem x_usedR {V : Int → Int} {c d : Nat → Int → Int} {S : Nat → Nat → Int32} (hs : vSet V) (hi : vImg V) (hp : vPlc V) (hbl : ∀ j, 0 ≤ j → j < V 0 → vBl V c j) (hg : vGeo V c) (hr : sR V S) (hd : ∀ j, 0 ≤ j → j < V 0 → d 2 j = c 2 j ∧ d 3 j = c 3 j) {p : Int} (p0 : 0 ≤ p ∧ p < 100) :
    ∃ z, (0 ≤ z ∧ z ≤ 32) ∧ f_X3_usedRows S (lA (d 2)) (lA (d 3)) (iI p) = some (iI z) ∧ f_X11_used (lA V) (lA (c 2)) (lA (c 3)) (iI p) 0 = some (iI z) := by
  have hn := hi.1
  have h3 : V 3 ≤ 4 := by unfold vSet at hs; omega
  have h13 := hp.1
  have e0 : S 0 0 = iI (V 0) := hr.1.1
  have e4 : S 5 4 = iI (V 5) := hr.2.1 4 (by omega)
  have e5 : S 5 5 = iI (V 6) := hr.2.1 5 (by omega)
  have h6 : ((0 ≤ V 5 ∧ V 5 ≤ 3) ∧ (0 ≤ V 6 ∧ V 6 ≤ 2)) ∧ (4 ≤ V 1 ∧ V 1 ≤ 32) ∧ (4 ≤ V 2 ∧ V 2 ≤ 32) := by unfold vSet at hs; omega
  unfold f_X3_usedRows f_X11_used
  obtain ⟨fu, hfu, hfu2⟩ := fuel_ex; rw [hfu]
  rw [il_5, rd_lA _ _ (by omega) (by omega) (by omega), e4, jn_e, jn_e, il_0]
  refine lpp (fun n s (u : Int) => (f_X3_usedRows_L13 S (lA (d 2)) (lA (d 3)) (iI p) (fun x1 => some (x1 + iI (V 5))) n (iI u) (iI s), f_X11_used_L10 (lA V) (lA (c 2)) (lA (c 3)) (iI p) (iI 0) (fun x2 => g_rd (lA V) 1748 (iI 5) fun x4 => some (x2 + x4)) n (iI u) (iI s))) (fun r => ∃ z, (0 ≤ z ∧ z ≤ 32) ∧ r.1 = some (iI z) ∧ r.2 = some (iI z)) (V 0) (fun s u => 0 ≤ s ∧ 0 ≤ u ∧ u ≤ max (V 5) (V 2 - V 5)) ?_ ?_ fu 0 (V 5) (by omega) (by omega) (by omega)
  · rintro n u ⟨-, u0, u1⟩
    refine ⟨u + V 5, by omega, ?_, ?_⟩
    · show f_X3_usedRows_L13 S _ _ _ _ (n + 1) (iI u) (iI (V 0)) = _
      rw [f_X3_usedRows_L13, e0, if_pos (Int32.le_refl _), iI_add]
    · show f_X11_used_L10 _ _ _ _ _ _ (n + 1) (iI u) (iI (V 0)) = _
      rw [f_X11_used_L10, il_0, rd_lA _ _ (by omega) (by omega) (by omega), if_pos (Int32.le_refl _), rd_lA _ _ (by omega) (by omega) (by omega), iI_add]
  · rintro n s u hs1 ⟨s0, u0, u1⟩ ih
    have hpg := hp.2.1 s s0 hs1
    have e8 := hr.2.2.2.2.1 s s0 (by omega)
    show ∃ z, (0 ≤ z ∧ z ≤ 32) ∧ f_X3_usedRows_L13 S _ _ _ _ (n + 1) (iI u) (iI s) = _ ∧ f_X11_used_L10 _ _ _ _ _ _ (n + 1) (iI u) (iI s) = _
    rw [f_X3_usedRows_L13, f_X11_used_L10, e0, e5, sA_lA S 8]
    by_cases hon : V (20 + 72 * s + 3) = p
    · have hpl := plc_of hs hi hbl hg hr hd s0 hs1 (by omega)
      rw [if_pos ⟨hs1, by omega⟩] at e8
      have r := im_r hpl
      have r2 := im_in hs hbl hg s0 hs1 (by omega)
      have a1 := c_imY hpl
      have a3 := c_imH hpl
      have b1 := m_imY (V := V) (s := s) (by omega)
      have b3 := m_imH hpl
      by_cases hu : imY V s + imH V c s + V 6 ≤ u
      · have ih := ih u (by omega)
        simp (disch := omega) only [↓bd_e, ↓jn_e, ↓opt_bind, ↓reduceIte, iLeT, iLeF, iLtT, iLtF, iEqT, iEqF, il_0, il_1, il_2, il_3, il_4, il_5, il_6, il_7, il_8, il_9, il_10, il_11, il_12, il_13, il_14, il_15, il_16, il_18, il_20, il_24, il_32, il_35, il_40, il_44, il_47, il_48, il_56, il_57, il_58, il_59, il_63, il_64, il_72, il_100, il_120, il_126, il_127, il_160, il_192, il_255, il_349, il_1748, il_6992, iI_add, iI_sub, iI_mul, iI_neg, iI_le, iI_lt, iI_eq, rd_lA, wr_lA, rd_lR, wr_lR, ite_iI, max_iI, min_iI, rem_iI, div_iI, ite_true, ite_false, if_true, if_false, ite_self, and_self, and_true, true_and, and_false, false_and, or_self, or_true, true_or, or_false, false_or, not_true_eq_false, not_false_eq_true, e8, a1, a3, f_X11_at, b1, b3]
        rw [show max u (imY V s + imH V c s + V 6) = u by omega]
        exact ih
      · have ih := ih (imY V s + imH V c s + V 6) (by omega)
        simp (disch := omega) only [↓bd_e, ↓jn_e, ↓opt_bind, ↓reduceIte, iLeT, iLeF, iLtT, iLtF, iEqT, iEqF, il_0, il_1, il_2, il_3, il_4, il_5, il_6, il_7, il_8, il_9, il_10, il_11, il_12, il_13, il_14, il_15, il_16, il_18, il_20, il_24, il_32, il_35, il_40, il_44, il_47, il_48, il_56, il_57, il_58, il_59, il_63, il_64, il_72, il_100, il_120, il_126, il_127, il_160, il_192, il_255, il_349, il_1748, il_6992, iI_add, iI_sub, iI_mul, iI_neg, iI_le, iI_lt, iI_eq, rd_lA, wr_lA, rd_lR, wr_lR, ite_iI, max_iI, min_iI, rem_iI, div_iI, ite_true, ite_false, if_true, if_false, ite_self, and_self, and_true, true_and, and_false, false_and, or_self, or_true, true_or, or_false, false_or, not_true_eq_false, not_false_eq_true, e8, a1, a3, f_X11_at, b1, b3]
        rw [show max u (imY V s + imH V c s + V 6) = imY V s + imH V c s + V 6 by omega]
        exact ih
    · have ih := ih u (by omega)
      have e8' : ¬ sA S 8 s = p ∧ -4 ≤ sA S 8 s ∧ sA S 8 s < 100 := by
        rw [e8]
        split <;> omega
      simp (disch := omega) only [↓bd_e, ↓jn_e, ↓opt_bind, ↓reduceIte, iLeT, iLeF, iLtT, iLtF, iEqT, iEqF, il_0, il_1, il_2, il_3, il_4, il_5, il_6, il_7, il_8, il_9, il_10, il_11, il_12, il_13, il_14, il_15, il_16, il_18, il_20, il_24, il_32, il_35, il_40, il_44, il_47, il_48, il_56, il_57, il_58, il_59, il_63, il_64, il_72, il_100, il_120, il_126, il_127, il_160, il_192, il_255, il_349, il_1748, il_6992, iI_add, iI_sub, iI_mul, iI_neg, iI_le, iI_lt, iI_eq, rd_lA, wr_lA, rd_lR, wr_lR, ite_iI, max_iI, min_iI, rem_iI, div_iI, ite_true, ite_false, if_true, if_false, ite_self, and_self, and_true, true_and, and_false, false_and, or_self, or_true, true_or, or_false, false_or, not_true_eq_false, not_false_eq_true, f_X11_at]
      exact ih
theorem x_usedWidth {V : Int → Int} {c : Nat → Int → Int} {S : Nat → Nat → Int32} {d : Nat → Int → Int} {l p : Int} {F : Int → Nat → Nat → Int32} {P : Int → Int} (h : stI V c S d l p F P) (bx bY : Int32) (cm : Nat → Int → Int) {i : Int} (hir : -2147483648 ≤ i ∧ i < 2147483648) :
    ∃ (a bx' bY' : Int32) (cm' : Nat → Int → Int), f_X10_usedWidth S (lA (d 2)) (lA (d 3)) (iI i) = some a ∧ f_X11_usedWidth bx bY (lA V) (lA (cm 0)) (lA (cm 1)) (lA (cm 2)) (lA (cm 3)) (lA (cm 4)) (lA (cm 5)) (iI i) = some (a, bx', bY', lA (cm' 0), lA (cm' 1), lA (cm' 2), lA (cm' 3), lA (cm' 4), lA (cm' 5)) := by
  obtain ⟨g1, g2, g3, g4, g5⟩ := id h
  obtain ⟨go, gs, gi, gp, gg⟩ := id g1
  have h3 : V 3 ≤ 4 ∧ (0 ≤ V 7 ∧ V 7 ≤ 1) ∧ (0 ≤ V 8 ∧ V 8 ≤ 3) := by unfold vSet at gs; omega
  have h13 := gp.1
  unfold f_X10_usedWidth f_X11_usedWidth
  rw [c_page g2 (by omega) hir, m_page (by omega) hir, opt_bind, opt_bind]
  by_cases hq : 0 ≤ i ∧ i ≤ V 13 - 1
  · rw [if_pos hq, if_neg (by decide +kernel : ¬ iI 1 = (0 : Int32)), if_neg (by decide +kernel : ¬ iI 1 = (0 : Int32))]
    obtain ⟨bx', bY', c', k1, k2⟩ := m_knows gi h3.2 cm bx bY
    have hD : ∀ j, 0 ≤ j → j < V 0 → vDe c' d j := fun j j0 j1 => vDe_Dd (vDd_cEq (vCat_uniq g3 k2) j0 j1 (cat_r gi g3 j j0 j1).1.1 (g4 j j0 j1))
    obtain ⟨z, -, s1, s2⟩ := x_usedC gs gi gp (vCat_bl gi k2) (gg c' k2) g2 (fun j j0 j1 => ⟨(hD j j0 j1).1, (hD j j0 j1).2.1⟩) (p := i) (by omega)
    rw [s1, k1, opt_bind, opt_bind]
    refine ⟨iI z, bx', bY', c', rfl, ?_⟩
    rw [s2, opt_bind]
  · rw [if_neg hq, if_pos (by decide +kernel : iI 0 = (0 : Int32)), if_pos (by decide +kernel : iI 0 = (0 : Int32))]
    exact ⟨_, bx, bY, cm, rfl, rfl⟩
theorem x_usedHeight {V : Int → Int} {c : Nat → Int → Int} {S : Nat → Nat → Int32} {d : Nat → Int → Int} {l p : Int} {F : Int → Nat → Nat → Int32} {P : Int → Int} (h : stI V c S d l p F P) (bx bY : Int32) (cm : Nat → Int → Int) {i : Int} (hir : -2147483648 ≤ i ∧ i < 2147483648) :
    ∃ (a bx' bY' : Int32) (cm' : Nat → Int → Int), f_X10_usedHeight S (lA (d 2)) (lA (d 3)) (iI i) = some a ∧ f_X11_usedHeight bx bY (lA V) (lA (cm 0)) (lA (cm 1)) (lA (cm 2)) (lA (cm 3)) (lA (cm 4)) (lA (cm 5)) (iI i) = some (a, bx', bY', lA (cm' 0), lA (cm' 1), lA (cm' 2), lA (cm' 3), lA (cm' 4), lA (cm' 5)) := by
  obtain ⟨g1, g2, g3, g4, g5⟩ := id h
  obtain ⟨go, gs, gi, gp, gg⟩ := id g1
  have h3 : V 3 ≤ 4 ∧ (0 ≤ V 7 ∧ V 7 ≤ 1) ∧ (0 ≤ V 8 ∧ V 8 ≤ 3) := by unfold vSet at gs; omega
  have h13 := gp.1
  unfold f_X10_usedHeight f_X11_usedHeight
  rw [c_page g2 (by omega) hir, m_page (by omega) hir, opt_bind, opt_bind]
  by_cases hq : 0 ≤ i ∧ i ≤ V 13 - 1
  · rw [if_pos hq, if_neg (by decide +kernel : ¬ iI 1 = (0 : Int32)), if_neg (by decide +kernel : ¬ iI 1 = (0 : Int32))]
    obtain ⟨bx', bY', c', k1, k2⟩ := m_knows gi h3.2 cm bx bY
    have hD : ∀ j, 0 ≤ j → j < V 0 → vDe c' d j := fun j j0 j1 => vDe_Dd (vDd_cEq (vCat_uniq g3 k2) j0 j1 (cat_r gi g3 j j0 j1).1.1 (g4 j j0 j1))
    obtain ⟨z, -, s1, s2⟩ := x_usedR gs gi gp (vCat_bl gi k2) (gg c' k2) g2 (fun j j0 j1 => ⟨(hD j j0 j1).1, (hD j j0 j1).2.1⟩) (p := i) (by omega)
    rw [s1, k1, opt_bind, opt_bind]
    refine ⟨iI z, bx', bY', c', rfl, ?_⟩
    rw [s2, opt_bind]
  · rw [if_neg hq, if_pos (by decide +kernel : iI 0 = (0 : Int32)), if_pos (by decide +kernel : iI 0 = (0 : Int32))]
    exact ⟨_, bx, bY, cm, rfl, rfl⟩
