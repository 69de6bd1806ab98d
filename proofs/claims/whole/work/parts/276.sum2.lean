theorem c_where {V : Int → Int} {c : Nat → Int → Int} {S : Nat → Nat → Int32} {d : Nat → Int → Int} {l p : Int} {F : Int → Nat → Nat → Int32} {P : Int → Int} (h : stI V c S d l p F P) {c' : Nat → Int → Int} (k2 : vCat V c') {i : Int} (h1 : 0 ≤ i ∧ i < V 0) :
    ∃ s0, (0 ≤ s0 ∧ s0 < V 0) ∧ s0 = (if c' 4 i = -1 then i else c' 4 i) ∧
      (((0 < c' 2 i ∧ 0 ≤ V (20 + 72 * s0 + 3)) ∧ hoR V c' i s0 ∧ f_X10_pageOf S (lA (d 2)) (lA (d 4)) (iI i) = some (iI (V (20 + 72 * s0 + 3))) ∧ f_X10_xOf S (lA (d 2)) (lA (d 4)) (iI i) = some (iI (imX V s0)) ∧ f_X10_yOf S (lA (d 2)) (lA (d 4)) (iI i) = some (iI (imY V s0)) ∧ f_X10_isTurned S (lA (d 2)) (lA (d 4)) (iI i) = some (iI (V (20 + 72 * s0 + 6))) ∧ ∀ bx bY, ∃ r b1 b2, (0 ≤ r ∧ r < 8) ∧ f_X10_recordOf S (lA (d 0)) (lA (d 1)) (lA (d 2)) (lA (d 3)) (lA (d 4)) (iI i) = some (iI r) ∧ f_X11_record bx bY (lA V) (lA (c' 0)) (lA (c' 1)) (lA (c' 2)) (lA (c' 3)) (iI i) (iI s0) = some (iI r, b1, b2)) ∨
       (¬ (0 < c' 2 i ∧ 0 ≤ V (20 + 72 * s0 + 3)) ∧ f_X10_pageOf S (lA (d 2)) (lA (d 4)) (iI i) = some (iI (-4)) ∧ f_X10_xOf S (lA (d 2)) (lA (d 4)) (iI i) = some (iI (-4)) ∧ f_X10_yOf S (lA (d 2)) (lA (d 4)) (iI i) = some (iI (-4)) ∧ f_X10_isTurned S (lA (d 2)) (lA (d 4)) (iI i) = some (iI (-4)) ∧ f_X10_recordOf S (lA (d 0)) (lA (d 1)) (lA (d 2)) (lA (d 3)) (lA (d 4)) (iI i) = some (iI (-4)))) := by
  obtain ⟨g1, g2, g3, g4, g5⟩ := id h
  obtain ⟨go, gs, gi, gp, gg⟩ := id g1
  have hn := gi.1
  have h3 : V 3 ≤ 4 := by unfold vSet at gs; omega
  have h13 := gp.1
  have hD : ∀ j, 0 ≤ j → j < V 0 → vDd c' d j := fun j j0 j1 => vDd_cEq (vCat_uniq g3 k2) j0 j1 (cat_r gi g3 j j0 j1).1.1 (g4 j j0 j1)
  have hd2 : ∀ j, 0 ≤ j → j < V 0 → d 2 j = c' 2 j ∧ d 3 j = c' 3 j := fun j j0 j1 => ⟨(hD j j0 j1).2.2.1, (hD j j0 j1).2.2.2.1⟩
  obtain ⟨hc2, hc4⟩ := cat_r gi k2 i h1.1 h1.2
  obtain ⟨-, -, d2, -, d4, -⟩ := hD i h1.1 h1.2
  unfold or4 at d4
  have hbl := c_isBlank (d := d) (j := i) (by omega) (by rw [d2]; omega)
  have e8 := g2.2.2.2.2.1
  have hh := c_has1 gi g2 h1
  -- what placeOf and sourceOf say
  have hps : ∃ s0, (0 ≤ s0 ∧ s0 < V 0) ∧ s0 = (if c' 4 i = -1 then i else c' 4 i) ∧ (((0 < c' 2 i ∧ 0 ≤ V (20 + 72 * s0 + 3)) ∧ hoR V c' i s0 ∧ f_X0_sourceOf (lA (d 2)) (lA (d 4)) (iI i) = some (iI s0) ∧ f_X10_placeOf S (lA (d 2)) (lA (d 4)) (iI i) = some (iI (V (20 + 72 * s0 + 3)))) ∨ (¬ (0 < c' 2 i ∧ 0 ≤ V (20 + 72 * s0 + 3)) ∧ f_X10_placeOf S (lA (d 2)) (lA (d 4)) (iI i) = some (iI (-4)))) := by
    unfold f_X10_placeOf f_X0_sourceOf
    rw [hbl, d2, show (-4 : Int32) = iI (-4) by decide +kernel]
    by_cases z2 : c' 2 i = 0
    · have z4 : c' 4 i = -1 := by
        rcases (k2 i h1.1 h1.2).2 with ⟨q, -⟩ | ⟨q, -⟩
        · omega
        · exact q
      refine ⟨i, h1, by rw [if_pos z4], Or.inr ⟨by omega, ?_⟩⟩
      simp (disch := omega) only [↓bd_e, ↓jn_e, ↓opt_bind, ↓reduceIte, iLeT, iLeF, iLtT, iLtF, iEqT, iEqF, il_0, il_1, il_2, il_3, il_4, il_5, il_6, il_7, il_8, il_9, il_10, il_11, il_12, il_13, il_14, il_15, il_16, il_18, il_20, il_24, il_32, il_35, il_40, il_44, il_47, il_48, il_56, il_57, il_58, il_59, il_63, il_64, il_72, il_100, il_120, il_126, il_127, il_160, il_192, il_255, il_349, il_1748, il_6992, iI_add, iI_sub, iI_mul, iI_neg, iI_le, iI_lt, iI_eq, rd_lA, wr_lA, rd_lR, wr_lR, ite_iI, max_iI, min_iI, rem_iI, div_iI, ite_true, ite_false, if_true, if_false, ite_self, and_self, and_true, true_and, and_false, false_and, or_self, or_true, true_or, or_false, false_or, not_true_eq_false, not_false_eq_true, z2]
    · by_cases z4 : c' 4 i = -1
      · rw [if_pos z4] at d4
        have hpi := gp.2.1 i h1.1 h1.2
        have e8 := e8 i h1.1 (by omega)
        refine ⟨i, h1, by rw [if_pos z4], ?_⟩
        rw [sA_lA S 8]
        by_cases hp : 0 ≤ V (20 + 72 * i + 3)
        · rw [if_pos ⟨h1.2, hp⟩] at e8
          refine Or.inl ⟨⟨by omega, hp⟩, Or.inr ⟨h1.1, h1.2, hp, by omega, Or.inl ⟨rfl, z4⟩⟩, ?_, ?_⟩
          · simp (disch := omega) only [↓bd_e, ↓jn_e, ↓opt_bind, ↓reduceIte, iLeT, iLeF, iLtT, iLtF, iEqT, iEqF, il_0, il_1, il_2, il_3, il_4, il_5, il_6, il_7, il_8, il_9, il_10, il_11, il_12, il_13, il_14, il_15, il_16, il_18, il_20, il_24, il_32, il_35, il_40, il_44, il_47, il_48, il_56, il_57, il_58, il_59, il_63, il_64, il_72, il_100, il_120, il_126, il_127, il_160, il_192, il_255, il_349, il_1748, il_6992, iI_add, iI_sub, iI_mul, iI_neg, iI_le, iI_lt, iI_eq, rd_lA, wr_lA, rd_lR, wr_lR, ite_iI, max_iI, min_iI, rem_iI, div_iI, ite_true, ite_false, if_true, if_false, ite_self, and_self, and_true, true_and, and_false, false_and, or_self, or_true, true_or, or_false, false_or, not_true_eq_false, not_false_eq_true, z2, d4]
          · simp (disch := omega) only [↓bd_e, ↓jn_e, ↓opt_bind, ↓reduceIte, iLeT, iLeF, iLtT, iLtF, iEqT, iEqF, il_0, il_1, il_2, il_3, il_4, il_5, il_6, il_7, il_8, il_9, il_10, il_11, il_12, il_13, il_14, il_15, il_16, il_18, il_20, il_24, il_32, il_35, il_40, il_44, il_47, il_48, il_56, il_57, il_58, il_59, il_63, il_64, il_72, il_100, il_120, il_126, il_127, il_160, il_192, il_255, il_349, il_1748, il_6992, iI_add, iI_sub, iI_mul, iI_neg, iI_le, iI_lt, iI_eq, rd_lA, wr_lA, rd_lR, wr_lR, ite_iI, max_iI, min_iI, rem_iI, div_iI, ite_true, ite_false, if_true, if_false, ite_self, and_self, and_true, true_and, and_false, false_and, or_self, or_true, true_or, or_false, false_or, not_true_eq_false, not_false_eq_true, z2, d4, e8]
        · rw [if_neg (by omega)] at e8
          refine Or.inr ⟨by omega, ?_⟩
          simp (disch := omega) only [↓bd_e, ↓jn_e, ↓opt_bind, ↓reduceIte, iLeT, iLeF, iLtT, iLtF, iEqT, iEqF, il_0, il_1, il_2, il_3, il_4, il_5, il_6, il_7, il_8, il_9, il_10, il_11, il_12, il_13, il_14, il_15, il_16, il_18, il_20, il_24, il_32, il_35, il_40, il_44, il_47, il_48, il_56, il_57, il_58, il_59, il_63, il_64, il_72, il_100, il_120, il_126, il_127, il_160, il_192, il_255, il_349, il_1748, il_6992, iI_add, iI_sub, iI_mul, iI_neg, iI_le, iI_lt, iI_eq, rd_lA, wr_lA, rd_lR, wr_lR, ite_iI, max_iI, min_iI, rem_iI, div_iI, ite_true, ite_false, if_true, if_false, ite_self, and_self, and_true, true_and, and_false, false_and, or_self, or_true, true_or, or_false, false_or, not_true_eq_false, not_false_eq_true, z2, d4, e8]
      · rw [if_neg z4] at d4
        have hcp : vCp V c' i (c' 4 i) (c' 5 i) := by
          rcases (k2 i h1.1 h1.2).2 with ⟨-, q, -⟩ | ⟨q, -⟩
          · exact q
          · exact absurd q z4
        obtain ⟨o0, o1, -, -, o2, -⟩ := hcp
        have hpi := gp.2.1 (c' 4 i) o0 (by omega)
        have e8 := e8 (c' 4 i) o0 (by omega)
        refine ⟨c' 4 i, ⟨o0, by omega⟩, by rw [if_neg z4], ?_⟩
        rw [sA_lA S 8]
        by_cases hp : 0 ≤ V (20 + 72 * ((c' 4 i)) + 3)
        · rw [if_pos ⟨by omega, hp⟩] at e8
          refine Or.inl ⟨⟨by omega, hp⟩, Or.inr ⟨o0, by omega, hp, o2, Or.inr rfl⟩, ?_, ?_⟩
          · simp (disch := omega) only [↓bd_e, ↓jn_e, ↓opt_bind, ↓reduceIte, iLeT, iLeF, iLtT, iLtF, iEqT, iEqF, il_0, il_1, il_2, il_3, il_4, il_5, il_6, il_7, il_8, il_9, il_10, il_11, il_12, il_13, il_14, il_15, il_16, il_18, il_20, il_24, il_32, il_35, il_40, il_44, il_47, il_48, il_56, il_57, il_58, il_59, il_63, il_64, il_72, il_100, il_120, il_126, il_127, il_160, il_192, il_255, il_349, il_1748, il_6992, iI_add, iI_sub, iI_mul, iI_neg, iI_le, iI_lt, iI_eq, rd_lA, wr_lA, rd_lR, wr_lR, ite_iI, max_iI, min_iI, rem_iI, div_iI, ite_true, ite_false, if_true, if_false, ite_self, and_self, and_true, true_and, and_false, false_and, or_self, or_true, true_or, or_false, false_or, not_true_eq_false, not_false_eq_true, z2, d4]
          · simp (disch := omega) only [↓bd_e, ↓jn_e, ↓opt_bind, ↓reduceIte, iLeT, iLeF, iLtT, iLtF, iEqT, iEqF, il_0, il_1, il_2, il_3, il_4, il_5, il_6, il_7, il_8, il_9, il_10, il_11, il_12, il_13, il_14, il_15, il_16, il_18, il_20, il_24, il_32, il_35, il_40, il_44, il_47, il_48, il_56, il_57, il_58, il_59, il_63, il_64, il_72, il_100, il_120, il_126, il_127, il_160, il_192, il_255, il_349, il_1748, il_6992, iI_add, iI_sub, iI_mul, iI_neg, iI_le, iI_lt, iI_eq, rd_lA, wr_lA, rd_lR, wr_lR, ite_iI, max_iI, min_iI, rem_iI, div_iI, ite_true, ite_false, if_true, if_false, ite_self, and_self, and_true, true_and, and_false, false_and, or_self, or_true, true_or, or_false, false_or, not_true_eq_false, not_false_eq_true, z2, d4, e8]
        · rw [if_neg (by omega)] at e8
          refine Or.inr ⟨by omega, ?_⟩
          simp (disch := omega) only [↓bd_e, ↓jn_e, ↓opt_bind, ↓reduceIte, iLeT, iLeF, iLtT, iLtF, iEqT, iEqF, il_0, il_1, il_2, il_3, il_4, il_5, il_6, il_7, il_8, il_9, il_10, il_11, il_12, il_13, il_14, il_15, il_16, il_18, il_20, il_24, il_32, il_35, il_40, il_44, il_47, il_48, il_56, il_57, il_58, il_59, il_63, il_64, il_72, il_100, il_120, il_126, il_127, il_160, il_192, il_255, il_349, il_1748, il_6992, iI_add, iI_sub, iI_mul, iI_neg, iI_le, iI_lt, iI_eq, rd_lA, wr_lA, rd_lR, wr_lR, ite_iI, max_iI, min_iI, rem_iI, div_iI, ite_true, ite_false, if_true, if_false, ite_self, and_self, and_true, true_and, and_false, false_and, or_self, or_true, true_or, or_false, false_or, not_true_eq_false, not_false_eq_true, z2, d4, e8]
  obtain ⟨s0, hs0, es0, hps⟩ := hps
  refine ⟨s0, hs0, es0, ?_⟩
  unfold f_X10_pageOf f_X10_xOf f_X10_yOf f_X10_isTurned f_X10_recordOf
  rw [hh, if_neg (by decide +kernel : ¬ iI 1 = (0 : Int32)), if_neg (by decide +kernel : ¬ iI 1 = (0 : Int32)), if_neg (by decide +kernel : ¬ iI 1 = (0 : Int32)), if_neg (by decide +kernel : ¬ iI 1 = (0 : Int32)), if_neg (by decide +kernel : ¬ iI 1 = (0 : Int32)), show (-4 : Int32) = iI (-4) by decide +kernel]
  rcases hps with ⟨hq, ho, q1, q2⟩ | ⟨hq, q2⟩
  · have hpl := plc_of gs gi (vCat_bl gi k2) (gg c' k2) g2 hd2 hs0.1 hs0.2 hq.2
    have hpi := gp.2.1 s0 hs0.1 hs0.2
    have hne : ¬ iI (V (20 + 72 * s0 + 3)) = iI (-4) := by rw [iI_eq (by omega) (by omega) (by omega) (by omega)]; omega
    have e11 := hpl.2.2.2.1.2.2
    have ea : f_X10_asNumber (iI (V (20 + 72 * s0 + 6))) = iI (V (20 + 72 * s0 + 6)) := by
      unfold f_X10_asNumber
      rcases hpl.2.1 with z | z
      · simp (disch := omega) only [↓bd_e, ↓jn_e, ↓opt_bind, ↓reduceIte, iLeT, iLeF, iLtT, iLtF, iEqT, iEqF, il_0, il_1, il_2, il_3, il_4, il_5, il_6, il_7, il_8, il_9, il_10, il_11, il_12, il_13, il_14, il_15, il_16, il_18, il_20, il_24, il_32, il_35, il_40, il_44, il_47, il_48, il_56, il_57, il_58, il_59, il_63, il_64, il_72, il_100, il_120, il_126, il_127, il_160, il_192, il_255, il_349, il_1748, il_6992, iI_add, iI_sub, iI_mul, iI_neg, iI_le, iI_lt, iI_eq, rd_lA, wr_lA, rd_lR, wr_lR, ite_iI, max_iI, min_iI, rem_iI, div_iI, ite_true, ite_false, if_true, if_false, ite_self, and_self, and_true, true_and, and_false, false_and, or_self, or_true, true_or, or_false, false_or, not_true_eq_false, not_false_eq_true, z]
      · simp (disch := omega) only [↓bd_e, ↓jn_e, ↓opt_bind, ↓reduceIte, iLeT, iLeF, iLtT, iLtF, iEqT, iEqF, il_0, il_1, il_2, il_3, il_4, il_5, il_6, il_7, il_8, il_9, il_10, il_11, il_12, il_13, il_14, il_15, il_16, il_18, il_20, il_24, il_32, il_35, il_40, il_44, il_47, il_48, il_56, il_57, il_58, il_59, il_63, il_64, il_72, il_100, il_120, il_126, il_127, il_160, il_192, il_255, il_349, il_1748, il_6992, iI_add, iI_sub, iI_mul, iI_neg, iI_le, iI_lt, iI_eq, rd_lA, wr_lA, rd_lR, wr_lR, ite_iI, max_iI, min_iI, rem_iI, div_iI, ite_true, ite_false, if_true, if_false, ite_self, and_self, and_true, true_and, and_false, false_and, or_self, or_true, true_or, or_false, false_or, not_true_eq_false, not_false_eq_true, z]
    refine Or.inl ⟨hq, ho, ?_, ?_, ?_, ?_, fun bx bY => ?_⟩
    · rw [q2, opt_bind]
    · rw [q2, opt_bind, if_neg hne, q1, opt_bind, c_imX hpl, opt_bind]
    · rw [q2, opt_bind, if_neg hne, q1, opt_bind, c_imY hpl, opt_bind]
    · rw [q2, opt_bind, if_neg hne, q1, opt_bind, sA_lA S 11, rd_lA _ _ (by omega) (by omega) (by omega), e11, ea]
    · obtain ⟨r, z1, z2, r0, f1, f2⟩ := x_rec h k2 h1 ho (by omega) bx bY
      refine ⟨r, z1, z2, r0, ?_, f2⟩
      rw [q2, opt_bind, if_neg hne, q1, opt_bind, sA_lA S 11, rd_lA _ _ (by omega) (by omega) (by omega), e11, f1, opt_bind]
  · refine Or.inr ⟨hq, ?_, ?_, ?_, ?_, ?_⟩
    · rw [q2, opt_bind]
    · rw [q2, opt_bind, if_pos rfl]
    · rw [q2, opt_bind, if_pos rfl]
    · rw [q2, opt_bind, if_pos rfl]
    · rw [q2, opt_bind, if_pos rfl]
theorem orNone_0 (x : Int32) : f_X11_orNone (iI 0) x = iI (-4) := rfl
theorem orNone_1 (x : Int32) : f_X11_orNone (iI 1) x = x := rfl
theorem c_trims6 {V : Int → Int} {S : Nat → Nat → Int32} (hi : vImg V) (hr : sR V S) (d : Nat → Int → Int) {i : Int} (h : 0 ≤ i ∧ i < V 0) : (f_X10_trimLeft S (lA (d 0)) (iI i) = some (iI (d 0 i)) ∧ f_X10_trimTop S (lA (d 1)) (iI i) = some (iI (d 1 i)) ∧ f_X10_trimWidth S (lA (d 2)) (iI i) = some (iI (d 2 i))) ∧ f_X10_trimHeight S (lA (d 3)) (iI i) = some (iI (d 3 i)) ∧ f_X10_originalOf S (lA (d 4)) (iI i) = some (iI (d 4 i)) ∧ f_X10_orientationOf S (lA (d 5)) (iI i) = some (iI (d 5 i)) := by
  have hn := hi.1
  unfold f_X10_trimLeft f_X10_trimTop f_X10_trimWidth f_X10_trimHeight f_X10_originalOf f_X10_orientationOf
  rw [c_has1 hi hr h, if_neg (by decide +kernel : ¬ iI 1 = (0 : Int32)), if_neg (by decide +kernel : ¬ iI 1 = (0 : Int32)), if_neg (by decide +kernel : ¬ iI 1 = (0 : Int32)), if_neg (by decide +kernel : ¬ iI 1 = (0 : Int32)), if_neg (by decide +kernel : ¬ iI 1 = (0 : Int32)), if_neg (by decide +kernel : ¬ iI 1 = (0 : Int32)), rd_lA _ _ (by omega) (by omega) (by omega), rd_lA _ _ (by omega) (by omega) (by omega), rd_lA _ _ (by omega) (by omega) (by omega), rd_lA _ _ (by omega) (by omega) (by omega), rd_lA _ _ (by omega) (by omega) (by omega), rd_lA _ _ (by omega) (by omega) (by omega)]
  exact ⟨⟨rfl, rfl, rfl⟩, rfl, rfl, rfl⟩
theorem x_sprite {V : Int → Int} {c : Nat → Int → Int} {S : Nat → Nat → Int32} {d : Nat → Int → Int} {l p : Int} {F : Int → Nat → Nat → Int32} {P : Int → Int} (h : stI V c S d l p F P) {c' : Nat → Int → Int} (k2 : vCat V c') {i : Int} (h1 : 0 ≤ i ∧ i < V 0) (bx bY : Int32) (y : Int64) :
    ∃ r b1 b2, f_X10_mixSprite S (lA (d 0)) (lA (d 1)) (lA (d 2)) (lA (d 3)) (lA (d 4)) (lA (d 5)) y (iI i) = some r ∧ f_X11_moreOf bx bY (lA V) (lA (c' 0)) (lA (c' 1)) (lA (c' 2)) (lA (c' 3)) (lA (c' 4)) (lA (c' 5)) y (iI i) = some (r, b1, b2) := by
  obtain ⟨g1, g2, g3, g4, g5⟩ := id h
  obtain ⟨go, gs, gi, gp, gg⟩ := id g1
  have hn := gi.1
  have h3 : V 3 ≤ 4 := by unfold vSet at gs; omega
  have h13 := gp.1
  have hD := vDd_cEq (vCat_uniq g3 k2) h1.1 h1.2 (cat_r gi g3 i h1.1 h1.2).1.1 (g4 i h1.1 h1.2)
  obtain ⟨hc2, hc4⟩ := cat_r gi k2 i h1.1 h1.2
  obtain ⟨⟨t0, t1, t2⟩, t3, t4, t5⟩ := c_trims6 gi g2 d h1
  obtain ⟨s0, hs0, es0, hw⟩ := c_where h k2 h1
  have hps := gp.2.1 s0 hs0.1 hs0.2
  have eX := m_imX (V := V) (s := s0) (by omega)
  have eY := m_imY (V := V) (s := s0) (by omega)
  unfold f_X10_mixSprite f_X11_moreOf
  rw [c_width gi g2 h1, c_height gi g2 h1, opt_bind, opt_bind, bd_e, jn_e]
  have e0 : f_X11_at (iI i) 0 = iI (20 + 72 * i + 0) := by unfold f_X11_at; simp (disch := omega) only [↓bd_e, ↓jn_e, ↓opt_bind, ↓reduceIte, iLeT, iLeF, iLtT, iLtF, iEqT, iEqF, il_0, il_1, il_2, il_3, il_4, il_5, il_6, il_7, il_8, il_9, il_10, il_11, il_12, il_13, il_14, il_15, il_16, il_18, il_20, il_24, il_32, il_35, il_40, il_44, il_47, il_48, il_56, il_57, il_58, il_59, il_63, il_64, il_72, il_100, il_120, il_126, il_127, il_160, il_192, il_255, il_349, il_1748, il_6992, iI_add, iI_sub, iI_mul, iI_neg, iI_le, iI_lt, iI_eq, rd_lA, wr_lA, rd_lR, wr_lR, ite_iI, max_iI, min_iI, rem_iI, div_iI, ite_true, ite_false, if_true, if_false, ite_self, and_self, and_true, true_and, and_false, false_and, or_self, or_true, true_or, or_false, false_or, not_true_eq_false, not_false_eq_true]
  have e1 : f_X11_at (iI i) 1 = iI (20 + 72 * i + 1) := by unfold f_X11_at; simp (disch := omega) only [↓bd_e, ↓jn_e, ↓opt_bind, ↓reduceIte, iLeT, iLeF, iLtT, iLtF, iEqT, iEqF, il_0, il_1, il_2, il_3, il_4, il_5, il_6, il_7, il_8, il_9, il_10, il_11, il_12, il_13, il_14, il_15, il_16, il_18, il_20, il_24, il_32, il_35, il_40, il_44, il_47, il_48, il_56, il_57, il_58, il_59, il_63, il_64, il_72, il_100, il_120, il_126, il_127, il_160, il_192, il_255, il_349, il_1748, il_6992, iI_add, iI_sub, iI_mul, iI_neg, iI_le, iI_lt, iI_eq, rd_lA, wr_lA, rd_lR, wr_lR, ite_iI, max_iI, min_iI, rem_iI, div_iI, ite_true, ite_false, if_true, if_false, ite_self, and_self, and_true, true_and, and_false, false_and, or_self, or_true, true_or, or_false, false_or, not_true_eq_false, not_false_eq_true]
  have e2 : f_X11_at (iI i) 2 = iI (20 + 72 * i + 2) := by unfold f_X11_at; simp (disch := omega) only [↓bd_e, ↓jn_e, ↓opt_bind, ↓reduceIte, iLeT, iLeF, iLtT, iLtF, iEqT, iEqF, il_0, il_1, il_2, il_3, il_4, il_5, il_6, il_7, il_8, il_9, il_10, il_11, il_12, il_13, il_14, il_15, il_16, il_18, il_20, il_24, il_32, il_35, il_40, il_44, il_47, il_48, il_56, il_57, il_58, il_59, il_63, il_64, il_72, il_100, il_120, il_126, il_127, il_160, il_192, il_255, il_349, il_1748, il_6992, iI_add, iI_sub, iI_mul, iI_neg, iI_le, iI_lt, iI_eq, rd_lA, wr_lA, rd_lR, wr_lR, ite_iI, max_iI, min_iI, rem_iI, div_iI, ite_true, ite_false, if_true, if_false, ite_self, and_self, and_true, true_and, and_false, false_and, or_self, or_true, true_or, or_false, false_or, not_true_eq_false, not_false_eq_true]
  have e3 : f_X11_at (iI s0) (iI 3) = iI (20 + 72 * s0 + 3) := by unfold f_X11_at; simp (disch := omega) only [↓bd_e, ↓jn_e, ↓opt_bind, ↓reduceIte, iLeT, iLeF, iLtT, iLtF, iEqT, iEqF, il_0, il_1, il_2, il_3, il_4, il_5, il_6, il_7, il_8, il_9, il_10, il_11, il_12, il_13, il_14, il_15, il_16, il_18, il_20, il_24, il_32, il_35, il_40, il_44, il_47, il_48, il_56, il_57, il_58, il_59, il_63, il_64, il_72, il_100, il_120, il_126, il_127, il_160, il_192, il_255, il_349, il_1748, il_6992, iI_add, iI_sub, iI_mul, iI_neg, iI_le, iI_lt, iI_eq, rd_lA, wr_lA, rd_lR, wr_lR, ite_iI, max_iI, min_iI, rem_iI, div_iI, ite_true, ite_false, if_true, if_false, ite_self, and_self, and_true, true_and, and_false, false_and, or_self, or_true, true_or, or_false, false_or, not_true_eq_false, not_false_eq_true]
  have e6 : f_X11_at (iI s0) (iI 6) = iI (20 + 72 * s0 + 6) := by unfold f_X11_at; simp (disch := omega) only [↓bd_e, ↓jn_e, ↓opt_bind, ↓reduceIte, iLeT, iLeF, iLtT, iLtF, iEqT, iEqF, il_0, il_1, il_2, il_3, il_4, il_5, il_6, il_7, il_8, il_9, il_10, il_11, il_12, il_13, il_14, il_15, il_16, il_18, il_20, il_24, il_32, il_35, il_40, il_44, il_47, il_48, il_56, il_57, il_58, il_59, il_63, il_64, il_72, il_100, il_120, il_126, il_127, il_160, il_192, il_255, il_349, il_1748, il_6992, iI_add, iI_sub, iI_mul, iI_neg, iI_le, iI_lt, iI_eq, rd_lA, wr_lA, rd_lR, wr_lR, ite_iI, max_iI, min_iI, rem_iI, div_iI, ite_true, ite_false, if_true, if_false, ite_self, and_self, and_true, true_and, and_false, false_and, or_self, or_true, true_or, or_false, false_or, not_true_eq_false, not_false_eq_true]
  rw [e0, rd_lA _ _ (by omega) (by omega) (by omega), e1, rd_lA _ _ (by omega) (by omega) (by omega), bd_e, jn_e, more_mix, more_mix]
  refine x_pix gi g2 h1 (fun o1 o2 => ∃ r b1 b2, o1 = some r ∧ o2 = some (r, b1, b2)) _ _ ?_ _
  intro z
  obtain ⟨d0, d1, d2, d3, d4, d5⟩ := hD
  unfold orN at d0 d1
  unfold or4 at d4 d5
  rw [c_groupOf gi g2 h1, opt_bind, t0, t1, t2, t3, t4, t5, e2, rd_lA _ _ (by omega) (by omega) (by omega)]
  simp only [opt_bind, bd_e, more_mix]
  by_cases z2 : c' 2 i = 0
  · have z4 : c' 4 i = -1 := by
      rcases (k2 i h1.1 h1.2).2 with ⟨q, -⟩ | ⟨q, -⟩
      · omega
      · exact q
    rw [if_pos z2] at d0 d1
    rw [if_pos z4] at d4 d5 es0
    subst es0
    rcases hw with ⟨q, -⟩ | ⟨-, q1, q2, q3, q4, q5⟩
    · omega
    rw [q1, q2, q3, q4, q5, d0, d1, d4, d5, d2, d3, z2]
    simp (disch := omega) only [↓bd_e, ↓jn_e, ↓opt_bind, ↓reduceIte, iLeT, iLeF, iLtT, iLtF, iEqT, iEqF, il_0, il_1, il_2, il_3, il_4, il_5, il_6, il_7, il_8, il_9, il_10, il_11, il_12, il_13, il_14, il_15, il_16, il_18, il_20, il_24, il_32, il_35, il_40, il_44, il_47, il_48, il_56, il_57, il_58, il_59, il_63, il_64, il_72, il_100, il_120, il_126, il_127, il_160, il_192, il_255, il_349, il_1748, il_6992, iI_add, iI_sub, iI_mul, iI_neg, iI_le, iI_lt, iI_eq, rd_lA, wr_lA, rd_lR, wr_lR, ite_iI, max_iI, min_iI, rem_iI, div_iI, ite_true, ite_false, if_true, if_false, ite_self, and_self, and_true, true_and, and_false, false_and, or_self, or_true, true_or, or_false, false_or, not_true_eq_false, not_false_eq_true, z2, z4, e3, e6, eX, eY, orNone_0, orNone_1, more_mix]
    exact ⟨_, bx, bY, rfl, rfl⟩
  · rw [if_neg z2] at d0 d1
    by_cases z4 : c' 4 i = -1
    · rw [if_pos z4] at d4 d5 es0
      subst es0
      rcases hw with ⟨⟨-, q⟩, -, q1, q2, q3, q4, q5⟩ | ⟨q, q1, q2, q3, q4, q5⟩
      · obtain ⟨r, b1, b2, r0, f1, f2⟩ := q5 bx bY
        rw [q1, q2, q3, q4, f1, d0, d1, d4, d5, d2, d3]
        simp (disch := omega) only [↓bd_e, ↓jn_e, ↓opt_bind, ↓reduceIte, iLeT, iLeF, iLtT, iLtF, iEqT, iEqF, il_0, il_1, il_2, il_3, il_4, il_5, il_6, il_7, il_8, il_9, il_10, il_11, il_12, il_13, il_14, il_15, il_16, il_18, il_20, il_24, il_32, il_35, il_40, il_44, il_47, il_48, il_56, il_57, il_58, il_59, il_63, il_64, il_72, il_100, il_120, il_126, il_127, il_160, il_192, il_255, il_349, il_1748, il_6992, iI_add, iI_sub, iI_mul, iI_neg, iI_le, iI_lt, iI_eq, rd_lA, wr_lA, rd_lR, wr_lR, ite_iI, max_iI, min_iI, rem_iI, div_iI, ite_true, ite_false, if_true, if_false, ite_self, and_self, and_true, true_and, and_false, false_and, or_self, or_true, true_or, or_false, false_or, not_true_eq_false, not_false_eq_true, z4, e3, e6, eX, eY, orNone_0, orNone_1, more_mix, f2]
        exact ⟨_, b1, b2, rfl, rfl⟩
      · rw [q1, q2, q3, q4, q5, d0, d1, d4, d5, d2, d3]
        simp (disch := omega) only [↓bd_e, ↓jn_e, ↓opt_bind, ↓reduceIte, iLeT, iLeF, iLtT, iLtF, iEqT, iEqF, il_0, il_1, il_2, il_3, il_4, il_5, il_6, il_7, il_8, il_9, il_10, il_11, il_12, il_13, il_14, il_15, il_16, il_18, il_20, il_24, il_32, il_35, il_40, il_44, il_47, il_48, il_56, il_57, il_58, il_59, il_63, il_64, il_72, il_100, il_120, il_126, il_127, il_160, il_192, il_255, il_349, il_1748, il_6992, iI_add, iI_sub, iI_mul, iI_neg, iI_le, iI_lt, iI_eq, rd_lA, wr_lA, rd_lR, wr_lR, ite_iI, max_iI, min_iI, rem_iI, div_iI, ite_true, ite_false, if_true, if_false, ite_self, and_self, and_true, true_and, and_false, false_and, or_self, or_true, true_or, or_false, false_or, not_true_eq_false, not_false_eq_true, z4, e3, e6, eX, eY, orNone_0, orNone_1, more_mix]
        exact ⟨_, bx, bY, rfl, rfl⟩
    · rw [if_neg z4] at d4 d5 es0
      rcases hw with ⟨⟨-, q⟩, -, q1, q2, q3, q4, q5⟩ | ⟨q, q1, q2, q3, q4, q5⟩
      · obtain ⟨r, b1, b2, r0, f1, f2⟩ := q5 bx bY
        rw [q1, q2, q3, q4, f1, d0, d1, d4, d5, d2, d3]
        subst es0
        simp (disch := omega) only [↓bd_e, ↓jn_e, ↓opt_bind, ↓reduceIte, iLeT, iLeF, iLtT, iLtF, iEqT, iEqF, il_0, il_1, il_2, il_3, il_4, il_5, il_6, il_7, il_8, il_9, il_10, il_11, il_12, il_13, il_14, il_15, il_16, il_18, il_20, il_24, il_32, il_35, il_40, il_44, il_47, il_48, il_56, il_57, il_58, il_59, il_63, il_64, il_72, il_100, il_120, il_126, il_127, il_160, il_192, il_255, il_349, il_1748, il_6992, iI_add, iI_sub, iI_mul, iI_neg, iI_le, iI_lt, iI_eq, rd_lA, wr_lA, rd_lR, wr_lR, ite_iI, max_iI, min_iI, rem_iI, div_iI, ite_true, ite_false, if_true, if_false, ite_self, and_self, and_true, true_and, and_false, false_and, or_self, or_true, true_or, or_false, false_or, not_true_eq_false, not_false_eq_true, e3, e6, eX, eY, orNone_0, orNone_1, more_mix, f2]
        exact ⟨_, b1, b2, rfl, rfl⟩
      · rw [q1, q2, q3, q4, q5, d0, d1, d4, d5, d2, d3]
        subst es0
        simp (disch := omega) only [↓bd_e, ↓jn_e, ↓opt_bind, ↓reduceIte, iLeT, iLeF, iLtT, iLtF, iEqT, iEqF, il_0, il_1, il_2, il_3, il_4, il_5, il_6, il_7, il_8, il_9, il_10, il_11, il_12, il_13, il_14, il_15, il_16, il_18, il_20, il_24, il_32, il_35, il_40, il_44, il_47, il_48, il_56, il_57, il_58, il_59, il_63, il_64, il_72, il_100, il_120, il_126, il_127, il_160, il_192, il_255, il_349, il_1748, il_6992, iI_add, iI_sub, iI_mul, iI_neg, iI_le, iI_lt, iI_eq, rd_lA, wr_lA, rd_lR, wr_lR, ite_iI, max_iI, min_iI, rem_iI, div_iI, ite_true, ite_false, if_true, if_false, ite_self, and_self, and_true, true_and, and_false, false_and, or_self, or_true, true_or, or_false, false_or, not_true_eq_false, not_false_eq_true, e3, e6, eX, eY, orNone_0, orNone_1, more_mix]
        exact ⟨_, bx, bY, rfl, rfl⟩
