theorem x_color {V : Int → Int} {S : Nat → Nat → Int32} (hi : vImg V) (gr : sR V S) {s x y : Int} (hs : -2147483648 ≤ s ∧ s < 2147483648) (hx : -2147483648 ≤ x ∧ x < 2147483648) (hy : -2147483648 ≤ y ∧ y < 2147483648) : ∃ a, f_X10_color S (iI s) (iI x) (iI y) = some a ∧ f_X11_color (lA V) (iI s) (iI x) (iI y) = some a := by
  have hn := hi.1
  have hW : ∀ j, 0 ≤ j → j < V 0 → sA S 1 j = V (20 + 72 * j + 0) ∧ sA S 2 j = V (20 + 72 * j + 1) := fun j j0 j1 => ⟨((sR_2 gr).2.2.1 j j0 j1).1, ((sR_2 gr).2.2.1 j j0 j1).2.1⟩
  obtain ⟨r1, e1, f1⟩ := c_hasPixel hi hW hs hx hy
  obtain ⟨r2, e2, f2⟩ := m_isPixel hi hs hx hy
  unfold isF at f1 f2
  unfold f_X10_color f_X11_color f_X11_pixelAt
  rw [gr.1.1, sA_lA S 1, sA_lA S 2, e1, e2, opt_bind, opt_bind]
  by_cases hp : isPx V s x y
  · obtain ⟨p1, p2, p3⟩ := id hp
    have hh := hi.2.1 s p1.1 p1.2
    have hrow := (gr.2.2.1 s p1.1 p1.2).2.2.2.1 x y p2.1 (by omega) p3.1 p3.2
    rw [if_pos p2.2] at hrow
    have ec : f_X6_colorAt (S 4) (iI s) (iI x) (iI y) = some (iI (V (20 + 72 * s + 8 + 8 * y + x))) := by
      rw [sW_lR S, c_colorAt (by omega) (by omega), hrow]
    have q1 : r1 = 1 := by
      rcases f1 with ⟨a, b⟩ | ⟨a, b⟩
      · exact a
      · exact absurd hp b
    have q2 : r2 = 1 := by
      rcases f2 with ⟨a, b⟩ | ⟨a, b⟩
      · exact a
      · exact absurd hp b
    refine ⟨iI (V (20 + 72 * s + 8 + 8 * y + x)), ?_, ?_⟩
    · rw [q1, if_neg (by decide +kernel : ¬ iI 1 = (0 : Int32)), ec, opt_bind]
    · rw [q2]
      simp (disch := omega) only [↓bd_e, ↓jn_e, ↓opt_bind, ↓reduceIte, iLeT, iLeF, iLtT, iLtF, iEqT, iEqF, il_0, il_1, il_2, il_3, il_4, il_5, il_6, il_7, il_8, il_9, il_10, il_11, il_12, il_13, il_14, il_15, il_16, il_18, il_20, il_24, il_32, il_35, il_40, il_44, il_47, il_48, il_56, il_57, il_58, il_59, il_63, il_64, il_72, il_100, il_120, il_126, il_127, il_160, il_192, il_255, il_349, il_1748, il_6992, iI_add, iI_sub, iI_mul, iI_neg, iI_le, iI_lt, iI_eq, rd_lA, wr_lA, rd_lR, wr_lR, ite_iI, max_iI, min_iI, rem_iI, div_iI, ite_true, ite_false, if_true, if_false, ite_self, and_self, and_true, true_and, and_false, false_and, or_self, or_true, true_or, or_false, false_or, not_true_eq_false, not_false_eq_true]
  · have q1 : r1 = 0 := by
      rcases f1 with ⟨a, b⟩ | ⟨a, b⟩
      · exact absurd b hp
      · exact a
    have q2 : r2 = 0 := by
      rcases f2 with ⟨a, b⟩ | ⟨a, b⟩
      · exact absurd b hp
      · exact a
    rw [q1, q2, if_pos (by decide +kernel : iI 0 = (0 : Int32)), if_pos (by decide +kernel : iI 0 = (0 : Int32))]
    exact ⟨_, rfl, rfl⟩
