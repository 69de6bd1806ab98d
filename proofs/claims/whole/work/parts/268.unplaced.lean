theorem m_isOriginal {c : Nat → Int → Int} {j : Int} (hj : 0 ≤ j ∧ j < 24) (hw : 0 ≤ c 2 j ∧ c 2 j ≤ 8) (h5 : -1 ≤ c 4 j ∧ c 4 j < 24) : f_X11_isOriginal (lA (c 2)) (lA (c 4)) (iI j) = some (iI (if 0 < c 2 j ∧ c 4 j = -1 then 1 else 0)) := by
  unfold f_X11_isOriginal
  by_cases h1 : c 2 j ≤ 0
  · simp (disch := omega) only [↓bd_e, ↓jn_e, ↓opt_bind, ↓reduceIte, iLeT, iLeF, iLtT, iLtF, iEqT, iEqF, il_0, il_1, il_2, il_3, il_4, il_5, il_6, il_7, il_8, il_9, il_10, il_11, il_12, il_13, il_14, il_15, il_16, il_18, il_20, il_24, il_32, il_35, il_40, il_44, il_47, il_48, il_56, il_57, il_58, il_59, il_63, il_64, il_72, il_100, il_120, il_126, il_127, il_160, il_192, il_255, il_349, il_1748, il_6992, iI_add, iI_sub, iI_mul, iI_neg, iI_le, iI_lt, iI_eq, rd_lA, wr_lA, rd_lR, wr_lR, ite_iI, max_iI, min_iI, rem_iI, div_iI, ite_true, ite_false, if_true, if_false, ite_self, and_self, and_true, true_and, and_false, false_and, or_self, or_true, true_or, or_false, false_or, not_true_eq_false, not_false_eq_true]
  · by_cases h2 : c 4 j = -1
    · simp (disch := omega) only [↓bd_e, ↓jn_e, ↓opt_bind, ↓reduceIte, iLeT, iLeF, iLtT, iLtF, iEqT, iEqF, il_0, il_1, il_2, il_3, il_4, il_5, il_6, il_7, il_8, il_9, il_10, il_11, il_12, il_13, il_14, il_15, il_16, il_18, il_20, il_24, il_32, il_35, il_40, il_44, il_47, il_48, il_56, il_57, il_58, il_59, il_63, il_64, il_72, il_100, il_120, il_126, il_127, il_160, il_192, il_255, il_349, il_1748, il_6992, iI_add, iI_sub, iI_mul, iI_neg, iI_le, iI_lt, iI_eq, rd_lA, wr_lA, rd_lR, wr_lR, ite_iI, max_iI, min_iI, rem_iI, div_iI, ite_true, ite_false, if_true, if_false, ite_self, and_self, and_true, true_and, and_false, false_and, or_self, or_true, true_or, or_false, false_or, not_true_eq_false, not_false_eq_true, h2]
    · simp (disch := omega) only [↓bd_e, ↓jn_e, ↓opt_bind, ↓reduceIte, iLeT, iLeF, iLtT, iLtF, iEqT, iEqF, il_0, il_1, il_2, il_3, il_4, il_5, il_6, il_7, il_8, il_9, il_10, il_11, il_12, il_13, il_14, il_15, il_16, il_18, il_20, il_24, il_32, il_35, il_40, il_44, il_47, il_48, il_56, il_57, il_58, il_59, il_63, il_64, il_72, il_100, il_120, il_126, il_127, il_160, il_192, il_255, il_349, il_1748, il_6992, iI_add, iI_sub, iI_mul, iI_neg, iI_le, iI_lt, iI_eq, rd_lA, wr_lA, rd_lR, wr_lR, ite_iI, max_iI, min_iI, rem_iI, div_iI, ite_true, ite_false, if_true, if_false, ite_self, and_self, and_true, true_and, and_false, false_and, or_self, or_true, true_or, or_false, false_or, not_true_eq_false, not_false_eq_true]
theorem c_clearText (l : Int32) : f_X10_clearText l = f_X11_clearText l := rfl
theorem x_unplaced {V : Int → Int} {c : Nat → Int → Int} {S : Nat → Nat → Int32} {d : Nat → Int → Int} {l p : Int} {F : Int → Nat → Nat → Int32} {P : Int → Int} (h : stI V c S d l p F P) (bx bY : Int32) (cm : Nat → Int → Int) :
    ∃ (a bx' bY' : Int32) (cm' : Nat → Int → Int), f_X10_unplaced S (lA (d 2)) (lA (d 4)) = some a ∧ f_X11_unplaced bx bY (lA V) (lA (cm 0)) (lA (cm 1)) (lA (cm 2)) (lA (cm 3)) (lA (cm 4)) (lA (cm 5)) = some (a, bx', bY', lA (cm' 0), lA (cm' 1), lA (cm' 2), lA (cm' 3), lA (cm' 4), lA (cm' 5)) := by
  obtain ⟨g1, g2, g3, g4, g5⟩ := id h
  obtain ⟨go, gs, gi, gp, gg⟩ := id g1
  have hn := gi.1
  have h3 : V 3 ≤ 4 ∧ (0 ≤ V 7 ∧ V 7 ≤ 1) ∧ (0 ≤ V 8 ∧ V 8 ≤ 3) := by unfold vSet at gs; omega
  have h13 := gp.1
  have e0 : S 0 0 = iI (V 0) := g2.1.1
  obtain ⟨bx', bY', c', k1, k2⟩ := m_knows gi h3.2 cm bx bY
  have hr := cat_r gi k2
  have hD : ∀ j, 0 ≤ j → j < V 0 → vDd c' d j := fun j j0 j1 => vDd_cEq (vCat_uniq g3 k2) j0 j1 (cat_r gi g3 j j0 j1).1.1 (g4 j j0 j1)
  unfold f_X10_unplaced f_X11_unplaced
  obtain ⟨fu, hfu, hfu2⟩ := fuel_ex; rw [hfu]
  rw [k1, opt_bind, il_0]
  suffices key : ∃ z, f_X10_unplaced_L4 S (lA (d 2)) (lA (d 4)) fu (iI 0) (iI 0) = some (iI z) ∧ f_X11_unplaced_L8 (lA V) (bx', bY', lA (c' 0), lA (c' 1), lA (c' 2), lA (c' 3), lA (c' 4), lA (c' 5)) fu (iI 0) (iI 0) = some (iI z, bx', bY', lA (c' 0), lA (c' 1), lA (c' 2), lA (c' 3), lA (c' 4), lA (c' 5)) by
    obtain ⟨z, z1, z2⟩ := key
    exact ⟨iI z, bx', bY', c', z1, z2⟩
  refine lpp (fun n s (u : Int) => (f_X10_unplaced_L4 S (lA (d 2)) (lA (d 4)) n (iI u) (iI s), f_X11_unplaced_L8 (lA V) (bx', bY', lA (c' 0), lA (c' 1), lA (c' 2), lA (c' 3), lA (c' 4), lA (c' 5)) n (iI u) (iI s))) (fun r => ∃ z, r.1 = some (iI z) ∧ r.2 = some (iI z, bx', bY', lA (c' 0), lA (c' 1), lA (c' 2), lA (c' 3), lA (c' 4), lA (c' 5))) (V 0) (fun s u => 0 ≤ s ∧ 0 ≤ u ∧ u ≤ s) ?_ ?_ fu 0 0 (by omega) (by omega) (by omega)
  · rintro n u ⟨-, u0, u1⟩
    refine ⟨u, ?_, ?_⟩
    · show f_X10_unplaced_L4 S _ _ (n + 1) (iI u) (iI (V 0)) = _
      rw [f_X10_unplaced_L4, e0, if_pos (Int32.le_refl _)]
    · show f_X11_unplaced_L8 _ _ (n + 1) (iI u) (iI (V 0)) = _
      rw [f_X11_unplaced_L8, il_0, rd_lA _ _ (by omega) (by omega) (by omega), if_pos (Int32.le_refl _)]
  · rintro n s u hs1 ⟨s0, u0, u1⟩ ih
    have hpg := gp.2.1 s s0 hs1
    have e8 := g2.2.2.2.2.1 s s0 (by omega)
    obtain ⟨-, -, d2, -, d4, -⟩ := hD s s0 hs1
    obtain ⟨⟨r1, r2, r3, r4⟩, r5⟩ := hr s s0 hs1
    have o1 := c_isOriginal (c := c') (d := d) (j := s) (by omega) ⟨r1, r2⟩ d2 d4 r5
    have o2 := m_isOriginal (c := c') (j := s) (by omega) ⟨r1, r2⟩ r5
    show ∃ z, f_X10_unplaced_L4 S _ _ (n + 1) (iI u) (iI s) = _ ∧ f_X11_unplaced_L8 _ _ (n + 1) (iI u) (iI s) = _
    rw [f_X10_unplaced_L4, f_X11_unplaced_L8, e0, sA_lA S 8, o1, opt_bind, show (-4 : Int32) = iI (-4) by decide +kernel]
    by_cases ho : 0 < c' 2 s ∧ c' 4 s = -1
    · rw [if_pos ho] at o2 ⊢
      by_cases hp : 0 ≤ V (20 + 72 * s + 3)
      · have ih := ih u (by omega)
        rw [if_pos ⟨hs1, hp⟩] at e8
        simp (disch := omega) only [↓bd_e, ↓jn_e, ↓opt_bind, ↓reduceIte, iLeT, iLeF, iLtT, iLtF, iEqT, iEqF, il_0, il_1, il_2, il_3, il_4, il_5, il_6, il_7, il_8, il_9, il_10, il_11, il_12, il_13, il_14, il_15, il_16, il_18, il_20, il_24, il_32, il_35, il_40, il_44, il_47, il_48, il_56, il_57, il_58, il_59, il_63, il_64, il_72, il_100, il_120, il_126, il_127, il_160, il_192, il_255, il_349, il_1748, il_6992, iI_add, iI_sub, iI_mul, iI_neg, iI_le, iI_lt, iI_eq, rd_lA, wr_lA, rd_lR, wr_lR, ite_iI, max_iI, min_iI, rem_iI, div_iI, ite_true, ite_false, if_true, if_false, ite_self, and_self, and_true, true_and, and_false, false_and, or_self, or_true, true_or, or_false, false_or, not_true_eq_false, not_false_eq_true, f_X11_at, o2, e8]
        rw [Int.add_zero]
        exact ih
      · have ih := ih (u + 1) (by omega)
        rw [if_neg (by omega)] at e8
        simp (disch := omega) only [↓bd_e, ↓jn_e, ↓opt_bind, ↓reduceIte, iLeT, iLeF, iLtT, iLtF, iEqT, iEqF, il_0, il_1, il_2, il_3, il_4, il_5, il_6, il_7, il_8, il_9, il_10, il_11, il_12, il_13, il_14, il_15, il_16, il_18, il_20, il_24, il_32, il_35, il_40, il_44, il_47, il_48, il_56, il_57, il_58, il_59, il_63, il_64, il_72, il_100, il_120, il_126, il_127, il_160, il_192, il_255, il_349, il_1748, il_6992, iI_add, iI_sub, iI_mul, iI_neg, iI_le, iI_lt, iI_eq, rd_lA, wr_lA, rd_lR, wr_lR, ite_iI, max_iI, min_iI, rem_iI, div_iI, ite_true, ite_false, if_true, if_false, ite_self, and_self, and_true, true_and, and_false, false_and, or_self, or_true, true_or, or_false, false_or, not_true_eq_false, not_false_eq_true, f_X11_at, o2, e8]
        exact ih
    · rw [if_neg ho] at o2 ⊢
      have ih := ih u (by omega)
      simp (disch := omega) only [↓bd_e, ↓jn_e, ↓opt_bind, ↓reduceIte, iLeT, iLeF, iLtT, iLtF, iEqT, iEqF, il_0, il_1, il_2, il_3, il_4, il_5, il_6, il_7, il_8, il_9, il_10, il_11, il_12, il_13, il_14, il_15, il_16, il_18, il_20, il_24, il_32, il_35, il_40, il_44, il_47, il_48, il_56, il_57, il_58, il_59, il_63, il_64, il_72, il_100, il_120, il_126, il_127, il_160, il_192, il_255, il_349, il_1748, il_6992, iI_add, iI_sub, iI_mul, iI_neg, iI_le, iI_lt, iI_eq, rd_lA, wr_lA, rd_lR, wr_lR, ite_iI, max_iI, min_iI, rem_iI, div_iI, ite_true, ite_false, if_true, if_false, ite_self, and_self, and_true, true_and, and_false, false_and, or_self, or_true, true_or, or_false, false_or, not_true_eq_false, not_false_eq_true, f_X11_at, o2]
      rw [Int.add_zero]
      exact ih
theorem x_pageBound {V : Int → Int} {c : Nat → Int → Int} {S : Nat → Nat → Int32} {d : Nat → Int → Int} {l p : Int} {F : Int → Nat → Nat → Int32} {P : Int → Int} (h : stI V c S d l p F P) (bx bY : Int32) (cm : Nat → Int → Int) :
    ∃ (a bx' bY' : Int32) (cm' : Nat → Int → Int), f_X10_pageBound S (lA (d 2)) (lA (d 3)) (lA (d 4)) = some a ∧ f_X11_pageBound bx bY (lA V) (lA (cm 0)) (lA (cm 1)) (lA (cm 2)) (lA (cm 3)) (lA (cm 4)) (lA (cm 5)) = some (a, bx', bY', lA (cm' 0), lA (cm' 1), lA (cm' 2), lA (cm' 3), lA (cm' 4), lA (cm' 5)) := by
  obtain ⟨g1, g2, g3, g4, g5⟩ := id h
  obtain ⟨go, gs, gi, gp, gg⟩ := id g1
  have hn := gi.1
  have h3 : V 3 ≤ 4 ∧ (0 ≤ V 7 ∧ V 7 ≤ 1) ∧ (0 ≤ V 8 ∧ V 8 ≤ 3) := by unfold vSet at gs; omega
  have h13 := gp.1
  have e0 : S 0 0 = iI (V 0) := g2.1.1
  obtain ⟨bx', bY', c', k1, k2⟩ := m_knows gi h3.2 cm bx bY
  have hr := cat_r gi k2
  have hD : ∀ j, 0 ≤ j → j < V 0 → vDd c' d j := fun j j0 j1 => vDd_cEq (vCat_uniq g3 k2) j0 j1 (cat_r gi g3 j j0 j1).1.1 (g4 j j0 j1)
  have hf : (-10 ≤ fldW V ∧ fldW V ≤ 35) ∧ (-10 ≤ fldH V ∧ fldH V ≤ 35) := by unfold vSet at gs; unfold fldW fldH; omega
  unfold f_X10_pageBound f_X11_pageBound f_X3_boxPositions
  obtain ⟨fu, hfu, hfu2⟩ := fuel_ex; rw [hfu]
  rw [k1, opt_bind, jn_e, il_0]
  suffices key : ∀ (k : Int32 → Option (Int32 × Int32 × Int32 × (Nat → Int32) × (Nat → Int32) × (Nat → Int32) × (Nat → Int32) × (Nat → Int32) × (Nat → Int32))), ∃ z, (0 ≤ z ∧ z ≤ 5400) ∧ f_X3_boxPositions_L4 S (lA (d 2)) (lA (d 3)) (lA (d 4)) fu (iI 0) (iI 0) = some (iI z) ∧ f_X11_pageBound_L8 (lA V) (bx', bY', lA (c' 0), lA (c' 1), lA (c' 2), lA (c' 3), lA (c' 4), lA (c' 5)) k fu (iI 0) (iI 0) = k (iI z) by
    obtain ⟨z, z0, z1, z2⟩ := key (fun x2 => if x2 = (iI 0) then (some (iI 0, bx', bY', lA (c' 0), lA (c' 1), lA (c' 2), lA (c' 3), lA (c' 4), lA (c' 5))) else ((f_X11_fieldWidth (lA V)).bind fun r4 => if r4 ≤ (iI 0) then (some (-4, bx', bY', lA (c' 0), lA (c' 1), lA (c' 2), lA (c' 3), lA (c' 4), lA (c' 5))) else ((f_X11_fieldHeight (lA V)).bind fun r5 => if (iI 0) < r5 then ((f_X11_fieldWidth (lA V)).bind fun r6 => (f_X11_fieldHeight (lA V)).bind fun r7 => g_bd (r6 * r7) fun x8 => g_nz x8 <| some ((((x2 + x8) - 1) / x8), bx', bY', lA (c' 0), lA (c' 1), lA (c' 2), lA (c' 3), lA (c' 4), lA (c' 5))) else (some (-4, bx', bY', lA (c' 0), lA (c' 1), lA (c' 2), lA (c' 3), lA (c' 4), lA (c' 5))))))
    rw [z1, opt_bind]
    by_cases hz : z = 0
    · subst hz
      refine ⟨iI 0, bx', bY', c', ?_, Eq.trans z2 ?_⟩
      · rw [if_pos rfl]
      · rw [if_pos rfl]
    · have hz2 : ¬ iI z = iI 0 := by rw [iI_eq (by omega) (by omega) (by omega) (by omega)]; exact hz
      have hfp : f_X5_fieldPositions (S 5 0) (S 5 1) (S 5 3) (S 5 4) = iI (max (fldW V) 0 * max (fldH V) 0) := by
        unfold f_X5_fieldPositions
        rw [c_fieldW g2.2.1, c_fieldH g2.2.1, il_0, max_iI (by omega) (by omega) (by omega) (by omega), max_iI (by omega) (by omega) (by omega) (by omega), iI_mul]
      rw [if_neg hz2, hfp, bd_e]
      by_cases hw : fldW V ≤ 0
      · rw [show max (fldW V) 0 = 0 by omega, Int.zero_mul, if_pos rfl]
        refine ⟨-4, bx', bY', c', rfl, Eq.trans z2 ?_⟩
        rw [if_neg hz2, m_fieldW gs, opt_bind, if_pos (by rw [iI_le (by omega) (by omega) (by omega) (by omega)]; exact hw)]
      · by_cases hh : fldH V ≤ 0
        · rw [show max (fldH V) 0 = 0 by omega, Int.mul_zero, if_pos rfl]
          refine ⟨-4, bx', bY', c', rfl, Eq.trans z2 ?_⟩
          rw [if_neg hz2, m_fieldW gs, opt_bind, if_neg (by rw [iI_le (by omega) (by omega) (by omega) (by omega)]; exact hw), m_fieldH gs, opt_bind, if_neg (by rw [iI_lt (by omega) (by omega) (by omega) (by omega)]; omega)]
        · have m0 : 0 < fldW V * fldH V := Int.mul_pos (by omega) (by omega)
          have m1 : fldW V * fldH V ≤ 35 * 35 := Int.mul_le_mul (by omega) (by omega) (by omega) (by omega)
          rw [show max (fldW V) 0 = fldW V by omega, show max (fldH V) 0 = fldH V by omega, if_neg (show ¬ iI (fldW V * fldH V) = iI 0 by rw [iI_eq (by omega) (by omega) (by omega) (by omega)]; omega), nzp_iI _ m0 (by omega)]
          refine ⟨_, bx', bY', c', rfl, Eq.trans z2 ?_⟩
          rw [if_neg hz2, m_fieldW gs, opt_bind, if_neg (by rw [iI_le (by omega) (by omega) (by omega) (by omega)]; exact hw), m_fieldH gs, opt_bind, if_pos (by rw [iI_lt (by omega) (by omega) (by omega) (by omega)]; omega), opt_bind, opt_bind, iI_mul, bd_e, nzp_iI _ m0 (by omega)]
  intro k
  refine lpp (fun n s (u : Int) => (f_X3_boxPositions_L4 S (lA (d 2)) (lA (d 3)) (lA (d 4)) n (iI u) (iI s), f_X11_pageBound_L8 (lA V) (bx', bY', lA (c' 0), lA (c' 1), lA (c' 2), lA (c' 3), lA (c' 4), lA (c' 5)) k n (iI u) (iI s))) (fun r => ∃ z, (0 ≤ z ∧ z ≤ 5400) ∧ r.1 = some (iI z) ∧ r.2 = k (iI z)) (V 0) (fun s u => 0 ≤ s ∧ 0 ≤ u ∧ u ≤ 225 * s) ?_ ?_ fu 0 0 (by omega) (by omega) (by omega)
  · rintro n u ⟨-, u0, u1⟩
    refine ⟨u, by omega, ?_, ?_⟩
    · show f_X3_boxPositions_L4 S _ _ _ (n + 1) (iI u) (iI (V 0)) = _
      rw [f_X3_boxPositions_L4, e0, if_pos (Int32.le_refl _)]
    · show f_X11_pageBound_L8 _ _ _ (n + 1) (iI u) (iI (V 0)) = _
      rw [f_X11_pageBound_L8, il_0, rd_lA _ _ (by omega) (by omega) (by omega), if_pos (Int32.le_refl _)]
  · rintro n s u hs1 ⟨s0, u0, u1⟩ ih
    obtain ⟨-, -, d2, d3, d4, -⟩ := hD s s0 hs1
    obtain ⟨⟨r1, r2, r3, r4⟩, r5⟩ := hr s s0 hs1
    have o1 := c_isOriginal (c := c') (d := d) (j := s) (by omega) ⟨r1, r2⟩ d2 d4 r5
    have o2 := m_isOriginal (c := c') (j := s) (by omega) ⟨r1, r2⟩ r5
    show ∃ z, (0 ≤ z ∧ z ≤ 5400) ∧ f_X3_boxPositions_L4 S _ _ _ (n + 1) (iI u) (iI s) = _ ∧ f_X11_pageBound_L8 _ _ _ (n + 1) (iI u) (iI s) = _
    rw [f_X3_boxPositions_L4, f_X11_pageBound_L8, e0, o1, opt_bind]
    by_cases ho : 0 < c' 2 s ∧ c' 4 s = -1
    · rw [if_pos ho] at o2 ⊢
      have hsh := ((vCat_bl gi k2) s s0 hs1).resolve_left (by omega)
      have hb := bx_r gs (c := c') (i := s) (by have := hsh.2.1; omega) (by have := hsh.2.1; omega) 0
      have m0 : 0 ≤ bxW V c' s 0 * bxH V c' s 0 := Int.mul_nonneg (by omega) (by omega)
      have m1 : bxW V c' s 0 * bxH V c' s 0 ≤ 15 * 15 := Int.mul_le_mul (by omega) (by omega) (by omega) (by omega)
      have ih := ih (u + bxW V c' s 0 * bxH V c' s 0) (by omega)
      have a1 := c_boxW (d := d) gs g2.2.1 (s := s) (t := 0) (by omega) ⟨d2, d3⟩ (Or.inl rfl)
      have a2 := c_boxH (d := d) gs g2.2.1 (s := s) (t := 0) (by omega) ⟨d2, d3⟩ (Or.inl rfl)
      have b1 := m_boxW (V := V) c' (s := s) (t := 0) (by omega) (Or.inl rfl)
      have b2 := m_boxH (V := V) c' (s := s) (t := 0) (by omega) (Or.inl rfl)
      simp (disch := omega) only [↓bd_e, ↓jn_e, ↓opt_bind, ↓reduceIte, iLeT, iLeF, iLtT, iLtF, iEqT, iEqF, il_0, il_1, il_2, il_3, il_4, il_5, il_6, il_7, il_8, il_9, il_10, il_11, il_12, il_13, il_14, il_15, il_16, il_18, il_20, il_24, il_32, il_35, il_40, il_44, il_47, il_48, il_56, il_57, il_58, il_59, il_63, il_64, il_72, il_100, il_120, il_126, il_127, il_160, il_192, il_255, il_349, il_1748, il_6992, iI_add, iI_sub, iI_mul, iI_neg, iI_le, iI_lt, iI_eq, rd_lA, wr_lA, rd_lR, wr_lR, ite_iI, max_iI, min_iI, rem_iI, div_iI, ite_true, ite_false, if_true, if_false, ite_self, and_self, and_true, true_and, and_false, false_and, or_self, or_true, true_or, or_false, false_or, not_true_eq_false, not_false_eq_true, o2, a1, a2, b1, b2]
      exact ih
    · rw [if_neg ho] at o2 ⊢
      have ih := ih u (by omega)
      simp (disch := omega) only [↓bd_e, ↓jn_e, ↓opt_bind, ↓reduceIte, iLeT, iLeF, iLtT, iLtF, iEqT, iEqF, il_0, il_1, il_2, il_3, il_4, il_5, il_6, il_7, il_8, il_9, il_10, il_11, il_12, il_13, il_14, il_15, il_16, il_18, il_20, il_24, il_32, il_35, il_40, il_44, il_47, il_48, il_56, il_57, il_58, il_59, il_63, il_64, il_72, il_100, il_120, il_126, il_127, il_160, il_192, il_255, il_349, il_1748, il_6992, iI_add, iI_sub, iI_mul, iI_neg, iI_le, iI_lt, iI_eq, rd_lA, wr_lA, rd_lR, wr_lR, ite_iI, max_iI, min_iI, rem_iI, div_iI, ite_true, ite_false, if_true, if_false, ite_self, and_self, and_true, true_and, and_false, false_and, or_self, or_true, true_or, or_false, false_or, not_true_eq_false, not_false_eq_true, o2]
      rw [Int.add_zero]
      exact ih
