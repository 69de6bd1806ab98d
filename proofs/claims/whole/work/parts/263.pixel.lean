theorem c_page {V : Int → Int} {S : Nat → Nat → Int32} (hr : sR V S) (h13 : 0 ≤ V 13 ∧ V 13 ≤ 4) {p : Int} (hp : -2147483648 ≤ p ∧ p < 2147483648) : f_X10_hasPage S (iI p) = some (iI (if 0 ≤ p ∧ p ≤ V 13 - 1 then 1 else 0)) := by
  unfold f_X10_hasPage
  rw [hr.1.2, il_0, il_1, iI_sub, within_iI (by omega) (by omega) (by omega) (by omega) (by omega) (by omega), bd_e, z_iI _ (by split <;> omega)]
theorem m_page {V : Int → Int} (h13 : 0 ≤ V 13 ∧ V 13 ≤ 4) {p : Int} (hp : -2147483648 ≤ p ∧ p < 2147483648) : f_X11_isPage (lA V) (iI p) = some (iI (if 0 ≤ p ∧ p ≤ V 13 - 1 then 1 else 0)) := by
  unfold f_X11_isPage
  rw [il_13, rd_lA _ _ (by omega) (by omega) (by omega), il_0, il_1, iI_sub, in_iI (by omega) (by omega) (by omega) (by omega) (by omega) (by omega), bd_e, z_iI _ (by split <;> omega)]
def onPx (V : Int → Int) (p x y : Int) : Prop := (0 ≤ p ∧ p ≤ V 13 - 1) ∧ (0 ≤ x ∧ x ≤ V 1 - 1) ∧ (0 ≤ y ∧ y ≤ V 2 - 1)
theorem x_onPx {V : Int → Int} {S : Nat → Nat → Int32} (hs : vSet V) (hr : sR V S) (h13 : 0 ≤ V 13 ∧ V 13 ≤ 4) {p x y : Int} (hp : -2147483648 ≤ p ∧ p < 2147483648) (hx : -2147483648 ≤ x ∧ x < 2147483648) (hy : -2147483648 ≤ y ∧ y < 2147483648) :
    ∃ r, f_X10_hasPagePixel S (iI p) (iI x) (iI y) = some (iI r) ∧ f_X11_isOnPage (lA V) (iI p) (iI x) (iI y) = some (iI r) ∧ isF r (onPx V p x y) := by
  have h12 : (4 ≤ V 1 ∧ V 1 ≤ 32) ∧ (4 ≤ V 2 ∧ V 2 ≤ 32) := by unfold vSet at hs; omega
  have e0 : S 5 0 = iI (V 1) := hr.2.1 0 (by omega)
  have e1 : S 5 1 = iI (V 2) := hr.2.1 1 (by omega)
  unfold f_X10_hasPagePixel f_X11_isOnPage
  rw [c_page hr h13 hp, m_page h13 hp, e0, e1]
  by_cases h1 : 0 ≤ p ∧ p ≤ V 13 - 1
  · by_cases h2 : 0 ≤ x ∧ x ≤ V 1 - 1
    · by_cases h3 : 0 ≤ y ∧ y ≤ V 2 - 1
      · exact ⟨1, by simp (disch := omega) only [↓bd_e, ↓jn_e, ↓opt_bind, ↓reduceIte, iLeT, iLeF, iLtT, iLtF, iEqT, iEqF, il_0, il_1, il_2, il_3, il_4, il_5, il_6, il_7, il_8, il_9, il_10, il_11, il_12, il_13, il_14, il_15, il_16, il_18, il_20, il_24, il_32, il_35, il_40, il_44, il_47, il_48, il_56, il_57, il_58, il_59, il_63, il_64, il_72, il_100, il_120, il_126, il_127, il_160, il_192, il_255, il_349, il_1748, il_6992, iI_add, iI_sub, iI_mul, iI_neg, iI_le, iI_lt, iI_eq, rd_lA, wr_lA, rd_lR, wr_lR, ite_iI, max_iI, min_iI, rem_iI, div_iI, ite_true, ite_false, if_true, if_false, ite_self, and_self, and_true, true_and, and_false, false_and, or_self, or_true, true_or, or_false, false_or, not_true_eq_false, not_false_eq_true, h1, h2, h3, within_iI], by simp (disch := omega) only [↓bd_e, ↓jn_e, ↓opt_bind, ↓reduceIte, iLeT, iLeF, iLtT, iLtF, iEqT, iEqF, il_0, il_1, il_2, il_3, il_4, il_5, il_6, il_7, il_8, il_9, il_10, il_11, il_12, il_13, il_14, il_15, il_16, il_18, il_20, il_24, il_32, il_35, il_40, il_44, il_47, il_48, il_56, il_57, il_58, il_59, il_63, il_64, il_72, il_100, il_120, il_126, il_127, il_160, il_192, il_255, il_349, il_1748, il_6992, iI_add, iI_sub, iI_mul, iI_neg, iI_le, iI_lt, iI_eq, rd_lA, wr_lA, rd_lR, wr_lR, ite_iI, max_iI, min_iI, rem_iI, div_iI, ite_true, ite_false, if_true, if_false, ite_self, and_self, and_true, true_and, and_false, false_and, or_self, or_true, true_or, or_false, false_or, not_true_eq_false, not_false_eq_true, h1, h2, h3, in_iI], isF_T ⟨h1, h2, h3⟩⟩
      · exact ⟨0, by simp (disch := omega) only [↓bd_e, ↓jn_e, ↓opt_bind, ↓reduceIte, iLeT, iLeF, iLtT, iLtF, iEqT, iEqF, il_0, il_1, il_2, il_3, il_4, il_5, il_6, il_7, il_8, il_9, il_10, il_11, il_12, il_13, il_14, il_15, il_16, il_18, il_20, il_24, il_32, il_35, il_40, il_44, il_47, il_48, il_56, il_57, il_58, il_59, il_63, il_64, il_72, il_100, il_120, il_126, il_127, il_160, il_192, il_255, il_349, il_1748, il_6992, iI_add, iI_sub, iI_mul, iI_neg, iI_le, iI_lt, iI_eq, rd_lA, wr_lA, rd_lR, wr_lR, ite_iI, max_iI, min_iI, rem_iI, div_iI, ite_true, ite_false, if_true, if_false, ite_self, and_self, and_true, true_and, and_false, false_and, or_self, or_true, true_or, or_false, false_or, not_true_eq_false, not_false_eq_true, h1, h2, h3, within_iI], by simp (disch := omega) only [↓bd_e, ↓jn_e, ↓opt_bind, ↓reduceIte, iLeT, iLeF, iLtT, iLtF, iEqT, iEqF, il_0, il_1, il_2, il_3, il_4, il_5, il_6, il_7, il_8, il_9, il_10, il_11, il_12, il_13, il_14, il_15, il_16, il_18, il_20, il_24, il_32, il_35, il_40, il_44, il_47, il_48, il_56, il_57, il_58, il_59, il_63, il_64, il_72, il_100, il_120, il_126, il_127, il_160, il_192, il_255, il_349, il_1748, il_6992, iI_add, iI_sub, iI_mul, iI_neg, iI_le, iI_lt, iI_eq, rd_lA, wr_lA, rd_lR, wr_lR, ite_iI, max_iI, min_iI, rem_iI, div_iI, ite_true, ite_false, if_true, if_false, ite_self, and_self, and_true, true_and, and_false, false_and, or_self, or_true, true_or, or_false, false_or, not_true_eq_false, not_false_eq_true, h1, h2, h3, in_iI], isF_F (fun z => h3 z.2.2)⟩
    · exact ⟨0, by simp (disch := omega) only [↓bd_e, ↓jn_e, ↓opt_bind, ↓reduceIte, iLeT, iLeF, iLtT, iLtF, iEqT, iEqF, il_0, il_1, il_2, il_3, il_4, il_5, il_6, il_7, il_8, il_9, il_10, il_11, il_12, il_13, il_14, il_15, il_16, il_18, il_20, il_24, il_32, il_35, il_40, il_44, il_47, il_48, il_56, il_57, il_58, il_59, il_63, il_64, il_72, il_100, il_120, il_126, il_127, il_160, il_192, il_255, il_349, il_1748, il_6992, iI_add, iI_sub, iI_mul, iI_neg, iI_le, iI_lt, iI_eq, rd_lA, wr_lA, rd_lR, wr_lR, ite_iI, max_iI, min_iI, rem_iI, div_iI, ite_true, ite_false, if_true, if_false, ite_self, and_self, and_true, true_and, and_false, false_and, or_self, or_true, true_or, or_false, false_or, not_true_eq_false, not_false_eq_true, h1, h2, within_iI], by simp (disch := omega) only [↓bd_e, ↓jn_e, ↓opt_bind, ↓reduceIte, iLeT, iLeF, iLtT, iLtF, iEqT, iEqF, il_0, il_1, il_2, il_3, il_4, il_5, il_6, il_7, il_8, il_9, il_10, il_11, il_12, il_13, il_14, il_15, il_16, il_18, il_20, il_24, il_32, il_35, il_40, il_44, il_47, il_48, il_56, il_57, il_58, il_59, il_63, il_64, il_72, il_100, il_120, il_126, il_127, il_160, il_192, il_255, il_349, il_1748, il_6992, iI_add, iI_sub, iI_mul, iI_neg, iI_le, iI_lt, iI_eq, rd_lA, wr_lA, rd_lR, wr_lR, ite_iI, max_iI, min_iI, rem_iI, div_iI, ite_true, ite_false, if_true, if_false, ite_self, and_self, and_true, true_and, and_false, false_and, or_self, or_true, true_or, or_false, false_or, not_true_eq_false, not_false_eq_true, h1, h2, in_iI], isF_F (fun z => h2 z.2.1)⟩
  · exact ⟨0, by simp (disch := omega) only [↓bd_e, ↓jn_e, ↓opt_bind, ↓reduceIte, iLeT, iLeF, iLtT, iLtF, iEqT, iEqF, il_0, il_1, il_2, il_3, il_4, il_5, il_6, il_7, il_8, il_9, il_10, il_11, il_12, il_13, il_14, il_15, il_16, il_18, il_20, il_24, il_32, il_35, il_40, il_44, il_47, il_48, il_56, il_57, il_58, il_59, il_63, il_64, il_72, il_100, il_120, il_126, il_127, il_160, il_192, il_255, il_349, il_1748, il_6992, iI_add, iI_sub, iI_mul, iI_neg, iI_le, iI_lt, iI_eq, rd_lA, wr_lA, rd_lR, wr_lR, ite_iI, max_iI, min_iI, rem_iI, div_iI, ite_true, ite_false, if_true, if_false, ite_self, and_self, and_true, true_and, and_false, false_and, or_self, or_true, true_or, or_false, false_or, not_true_eq_false, not_false_eq_true, h1], by simp (disch := omega) only [↓bd_e, ↓jn_e, ↓opt_bind, ↓reduceIte, iLeT, iLeF, iLtT, iLtF, iEqT, iEqF, il_0, il_1, il_2, il_3, il_4, il_5, il_6, il_7, il_8, il_9, il_10, il_11, il_12, il_13, il_14, il_15, il_16, il_18, il_20, il_24, il_32, il_35, il_40, il_44, il_47, il_48, il_56, il_57, il_58, il_59, il_63, il_64, il_72, il_100, il_120, il_126, il_127, il_160, il_192, il_255, il_349, il_1748, il_6992, iI_add, iI_sub, iI_mul, iI_neg, iI_le, iI_lt, iI_eq, rd_lA, wr_lA, rd_lR, wr_lR, ite_iI, max_iI, min_iI, rem_iI, div_iI, ite_true, ite_false, if_true, if_false, ite_self, and_self, and_true, true_and, and_false, false_and, or_self, or_true, true_or, or_false, false_or, not_true_eq_false, not_false_eq_true, h1], isF_F (fun z => h1 z.1)⟩
theorem m_held {a b : Int} (ha : -1000 ≤ a ∧ a < 1000) (hb : 0 ≤ b ∧ b < 1000) : f_X11_held (iI a) (iI b) = iI (max 0 (min a b)) := by
  unfold f_X11_held
  by_cases h : 0 ≤ a
  · by_cases h' : a ≤ b
    · simp (disch := omega) only [↓bd_e, ↓jn_e, ↓opt_bind, ↓reduceIte, iLeT, iLeF, iLtT, iLtF, iEqT, iEqF, il_0, il_1, il_2, il_3, il_4, il_5, il_6, il_7, il_8, il_9, il_10, il_11, il_12, il_13, il_14, il_15, il_16, il_18, il_20, il_24, il_32, il_35, il_40, il_44, il_47, il_48, il_56, il_57, il_58, il_59, il_63, il_64, il_72, il_100, il_120, il_126, il_127, il_160, il_192, il_255, il_349, il_1748, il_6992, iI_add, iI_sub, iI_mul, iI_neg, iI_le, iI_lt, iI_eq, rd_lA, wr_lA, rd_lR, wr_lR, ite_iI, max_iI, min_iI, rem_iI, div_iI, ite_true, ite_false, if_true, if_false, ite_self, and_self, and_true, true_and, and_false, false_and, or_self, or_true, true_or, or_false, false_or, not_true_eq_false, not_false_eq_true]
    · simp (disch := omega) only [↓bd_e, ↓jn_e, ↓opt_bind, ↓reduceIte, iLeT, iLeF, iLtT, iLtF, iEqT, iEqF, il_0, il_1, il_2, il_3, il_4, il_5, il_6, il_7, il_8, il_9, il_10, il_11, il_12, il_13, il_14, il_15, il_16, il_18, il_20, il_24, il_32, il_35, il_40, il_44, il_47, il_48, il_56, il_57, il_58, il_59, il_63, il_64, il_72, il_100, il_120, il_126, il_127, il_160, il_192, il_255, il_349, il_1748, il_6992, iI_add, iI_sub, iI_mul, iI_neg, iI_le, iI_lt, iI_eq, rd_lA, wr_lA, rd_lR, wr_lR, ite_iI, max_iI, min_iI, rem_iI, div_iI, ite_true, ite_false, if_true, if_false, ite_self, and_self, and_true, true_and, and_false, false_and, or_self, or_true, true_or, or_false, false_or, not_true_eq_false, not_false_eq_true]
  · simp (disch := omega) only [↓bd_e, ↓jn_e, ↓opt_bind, ↓reduceIte, iLeT, iLeF, iLtT, iLtF, iEqT, iEqF, il_0, il_1, il_2, il_3, il_4, il_5, il_6, il_7, il_8, il_9, il_10, il_11, il_12, il_13, il_14, il_15, il_16, il_18, il_20, il_24, il_32, il_35, il_40, il_44, il_47, il_48, il_56, il_57, il_58, il_59, il_63, il_64, il_72, il_100, il_120, il_126, il_127, il_160, il_192, il_255, il_349, il_1748, il_6992, iI_add, iI_sub, iI_mul, iI_neg, iI_le, iI_lt, iI_eq, rd_lA, wr_lA, rd_lR, wr_lR, ite_iI, max_iI, min_iI, rem_iI, div_iI, ite_true, ite_false, if_true, if_false, ite_self, and_self, and_true, true_and, and_false, false_and, or_self, or_true, true_or, or_false, false_or, not_true_eq_false, not_false_eq_true]
theorem x_colorOn {V : Int → Int} {c d : Nat → Int → Int} {S : Nat → Nat → Int32} (hs : vSet V) (hi : vImg V) (hp : vPlc V) (hc : vCat V c) (hg : vGeo V c) (hr : sR V S) (hD : ∀ j, 0 ≤ j → j < V 0 → vDe c d j) {p x y : Int} (p0 : 0 ≤ p ∧ p < 100) (x0 : 0 ≤ x ∧ x < 100) (y0 : 0 ≤ y ∧ y < 100) (bx by' : Int32) :
    ∃ a b1 b2, f_X3_colorOn S (lA (d 0)) (lA (d 1)) (lA (d 2)) (lA (d 3)) (iI p) (iI x) (iI y) = some a ∧ f_X11_colorAt bx by' (lA V) (lA (c 0)) (lA (c 1)) (lA (c 2)) (lA (c 3)) (iI p) (iI x) (iI y) = some (a, b1, b2) := by
  have hd : ∀ j, 0 ≤ j → j < V 0 → d 2 j = c 2 j ∧ d 3 j = c 3 j := fun j j0 j1 => ⟨(hD j j0 j1).1, (hD j j0 j1).2.1⟩
  obtain ⟨o, e1, e2, e3⟩ := x_owner hs hi hp hc hg hr hd p0 x0 y0
  have hn := hi.1
  unfold f_X3_colorOn f_X11_colorAt
  rw [e1, e2, show (-4 : Int32) = iI (-4) by decide +kernel]
  by_cases ho : o = -1
  · subst ho
    refine ⟨iI 0, bx, by', ?_, ?_⟩
    · simp (disch := omega) only [↓bd_e, ↓jn_e, ↓opt_bind, ↓reduceIte, iLeT, iLeF, iLtT, iLtF, iEqT, iEqF, il_0, il_1, il_2, il_3, il_4, il_5, il_6, il_7, il_8, il_9, il_10, il_11, il_12, il_13, il_14, il_15, il_16, il_18, il_20, il_24, il_32, il_35, il_40, il_44, il_47, il_48, il_56, il_57, il_58, il_59, il_63, il_64, il_72, il_100, il_120, il_126, il_127, il_160, il_192, il_255, il_349, il_1748, il_6992, iI_add, iI_sub, iI_mul, iI_neg, iI_le, iI_lt, iI_eq, rd_lA, wr_lA, rd_lR, wr_lR, ite_iI, max_iI, min_iI, rem_iI, div_iI, ite_true, ite_false, if_true, if_false, ite_self, and_self, and_true, true_and, and_false, false_and, or_self, or_true, true_or, or_false, false_or, not_true_eq_false, not_false_eq_true]
    · simp (disch := omega) only [↓bd_e, ↓jn_e, ↓opt_bind, ↓reduceIte, iLeT, iLeF, iLtT, iLtF, iEqT, iEqF, il_0, il_1, il_2, il_3, il_4, il_5, il_6, il_7, il_8, il_9, il_10, il_11, il_12, il_13, il_14, il_15, il_16, il_18, il_20, il_24, il_32, il_35, il_40, il_44, il_47, il_48, il_56, il_57, il_58, il_59, il_63, il_64, il_72, il_100, il_120, il_126, il_127, il_160, il_192, il_255, il_349, il_1748, il_6992, iI_add, iI_sub, iI_mul, iI_neg, iI_le, iI_lt, iI_eq, rd_lA, wr_lA, rd_lR, wr_lR, ite_iI, max_iI, min_iI, rem_iI, div_iI, ite_true, ite_false, if_true, if_false, ite_self, and_self, and_true, true_and, and_false, false_and, or_self, or_true, true_or, or_false, false_or, not_true_eq_false, not_false_eq_true]
  · obtain ⟨⟨q0, q1, q2⟩, ⟨u1, u2⟩, u3, u4⟩ := e3.resolve_left ho
    have hpl := plc_of hs hi (vCat_bl hi hc) hg hr hd q0 q1 (by omega)
    have r := im_r hpl
    have a1 := c_imX hpl
    have a2 := c_imY hpl
    have a3 := c_imW hpl
    have a4 := c_imH hpl
    have b1 := m_imX (V := V) (s := o) (by omega)
    have b2 := m_imY (V := V) (s := o) (by omega)
    have b3 := m_imW hpl
    have b4 := m_imH hpl
    have hDo := hD o q0 q1
    obtain ⟨f1, f2, -, ⟨-, -, f3⟩, -, f4, -⟩ := id hpl
    have hsh := ((vCat_bl hi hc) o q0 q1).resolve_left (by omega)
    have hrow := (hr.2.2.1 o q0 q1).2.2.2.1
    obtain ⟨dx, hdx⟩ : ∃ z, z = max 0 (min (x - imX V o) (imW V c o - 1)) := ⟨_, rfl⟩
    obtain ⟨dy, hdy⟩ : ∃ z, z = max 0 (min (y - imY V o) (imH V c o - 1)) := ⟨_, rfl⟩
    have hdxr : 0 ≤ dx ∧ dx < imW V c o := by omega
    have hdyr : 0 ≤ dy ∧ dy < imH V c o := by omega
    have m1 := m_held (a := x - imX V o) (b := imW V c o - 1) (by omega) (by omega)
    have m2 := m_held (a := y - imY V o) (b := imH V c o - 1) (by omega) (by omega)
    rw [← hdx] at m1
    rw [← hdy] at m2
    have hx8 : (if iI (V (20 + 72 * o + 6)) = 0 then (0 : Int32) else 1) = iI (V (20 + 72 * o + 6)) := by
      rcases f2 with z | z
      · rw [z]; decide +kernel
      · rw [z]; decide +kernel
    have hmod : V (20 + 72 * o + 6) % 2 = V (20 + 72 * o + 6) := by omega
    have hbx : dx < (if V (20 + 72 * o + 6) % 2 = 1 then c 3 o else c 2 o) := by rw [hmod]; exact hdxr.2
    have hby : dy < (if V (20 + 72 * o + 6) % 2 = 1 then c 2 o else c 3 o) := by rw [hmod]; exact hdyr.2
    obtain ⟨g0, g1, g2⟩ := id hDo
    obtain ⟨g2, g3⟩ := g2 (by omega)
    have k1 := c_colorIn (x := dx) (y := dy) (q := V (20 + 72 * o + 6)) (vSh_De hDo hsh) hrow (by omega) hdxr.1 (by rw [g0, g1]; exact hbx) hdyr.1 (by rw [g0, g1]; exact hby)
    rw [g0, g1, g2, g3] at k1
    obtain ⟨z1, z2, k2⟩ := m_colorBy (x := dx) (y := dy) (q := 0) (t := V (20 + 72 * o + 6)) hsh f2 (by omega) hdxr.1 (by rw [Int.zero_add]; exact hbx) hdyr.1 (by rw [Int.zero_add]; exact hby)
    have k2 : f_X11_colorBy (lA V) (lA (c 0)) (lA (c 1)) (lA (c 2)) (lA (c 3)) (iI o) (iI (V (20 + 72 * o + 6))) (iI 0) (iI dx) (iI dy) = some (iI (V (20 + 72 * o + 8 + 8 * (c 1 o + bY (V (20 + 72 * o + 6)) (c 2 o) (c 3 o) dx dy) + (c 0 o + bX (V (20 + 72 * o + 6)) (c 2 o) (c 3 o) dx dy))), z1, z2) := k2
    refine ⟨iI (V (20 + 72 * o + 8 + 8 * (c 1 o + bY (V (20 + 72 * o + 6)) (c 2 o) (c 3 o) dx dy) + (c 0 o + bX (V (20 + 72 * o + 6)) (c 2 o) (c 3 o) dx dy))), z1, z2, ?_, ?_⟩
    · rw [if_neg ho, opt_bind, if_neg (by rw [iI_eq (by omega) (by omega) (by omega) (by omega)]; omega), a1, opt_bind, a3, opt_bind, il_1, il_0, iI_sub, iI_sub, min_iI (by omega) (by omega) (by omega) (by omega), max_iI (by omega) (by omega) (by omega) (by omega), bd_e, ← hdx, a2, opt_bind, a4, opt_bind, iI_sub, iI_sub, min_iI (by omega) (by omega) (by omega) (by omega), max_iI (by omega) (by omega) (by omega) (by omega), bd_e, ← hdy, sA_lA S 11, rd_lA _ _ (by omega) (by omega) (by omega), f3, ← il_0, ← il_1, hx8, bd_e, sW_lR S, k1, opt_bind]
    · rw [opt_bind, il_0, if_pos (by rw [iI_le (by omega) (by omega) (by omega) (by omega)]; omega), il_6]
      simp (disch := omega) only [↓bd_e, ↓jn_e, ↓opt_bind, ↓reduceIte, iLeT, iLeF, iLtT, iLtF, iEqT, iEqF, il_0, il_1, il_2, il_3, il_4, il_5, il_6, il_7, il_8, il_9, il_10, il_11, il_12, il_13, il_14, il_15, il_16, il_18, il_20, il_24, il_32, il_35, il_40, il_44, il_47, il_48, il_56, il_57, il_58, il_59, il_63, il_64, il_72, il_100, il_120, il_126, il_127, il_160, il_192, il_255, il_349, il_1748, il_6992, iI_add, iI_sub, iI_mul, iI_neg, iI_le, iI_lt, iI_eq, rd_lA, wr_lA, rd_lR, wr_lR, ite_iI, max_iI, min_iI, rem_iI, div_iI, ite_true, ite_false, if_true, if_false, ite_self, and_self, and_true, true_and, and_false, false_and, or_self, or_true, true_or, or_false, false_or, not_true_eq_false, not_false_eq_true, f_X11_at, b1, b2, b3, b4, m1, m2, k2]
theorem x_pixel {V : Int → Int} {c : Nat → Int → Int} {S : Nat → Nat → Int32} {d : Nat → Int → Int} {l p : Int} {F : Int → Nat → Nat → Int32} {P : Int → Int} (h : stI V c S d l p F P) (bx bY : Int32) (cm : Nat → Int → Int) {i x y : Int} (hir : -2147483648 ≤ i ∧ i < 2147483648) (hx : -2147483648 ≤ x ∧ x < 2147483648) (hy : -2147483648 ≤ y ∧ y < 2147483648) :
    ∃ (a bx' bY' : Int32) (cm' : Nat → Int → Int), f_X10_pixel S (lA (d 0)) (lA (d 1)) (lA (d 2)) (lA (d 3)) (iI i) (iI x) (iI y) = some a ∧ f_X11_pixel bx bY (lA V) (lA (cm 0)) (lA (cm 1)) (lA (cm 2)) (lA (cm 3)) (lA (cm 4)) (lA (cm 5)) (iI i) (iI x) (iI y) = some (a, bx', bY', lA (cm' 0), lA (cm' 1), lA (cm' 2), lA (cm' 3), lA (cm' 4), lA (cm' 5)) := by
  obtain ⟨g1, g2, g3, g4, g5⟩ := id h
  obtain ⟨go, gs, gi, gp, gg⟩ := id g1
  have h3 : (V 3 ≤ 4 ∧ V 1 ≤ 32 ∧ V 2 ≤ 32) ∧ (0 ≤ V 7 ∧ V 7 ≤ 1) ∧ (0 ≤ V 8 ∧ V 8 ≤ 3) := by unfold vSet at gs; omega
  have h13 := gp.1
  obtain ⟨r, e1, e2, e3⟩ := x_onPx gs g2 (by omega) hir hx hy
  unfold f_X10_pixel f_X11_pixel
  rw [e1, e2, opt_bind, opt_bind]
  rcases e3 with ⟨rfl, z1, z2, z3⟩ | ⟨rfl, -⟩
  · rw [if_neg (by decide +kernel : ¬ iI 1 = (0 : Int32)), if_neg (by decide +kernel : ¬ iI 1 = (0 : Int32))]
    obtain ⟨bx', bY', c', k1, k2⟩ := m_knows gi h3.2 cm bx bY
    have hD : ∀ j, 0 ≤ j → j < V 0 → vDe c' d j := fun j j0 j1 => vDe_Dd (vDd_cEq (vCat_uniq g3 k2) j0 j1 (cat_r gi g3 j j0 j1).1.1 (g4 j j0 j1))
    obtain ⟨a, b1, b2, s1, s2⟩ := x_colorOn gs gi gp k2 (gg c' k2) g2 hD (p := i) (x := x) (y := y) (by omega) (by omega) (by omega) bx' bY'
    rw [s1, k1, opt_bind, opt_bind]
    refine ⟨a, b1, b2, c', rfl, ?_⟩
    rw [s2, opt_bind]
  · rw [if_pos (by decide +kernel : iI 0 = (0 : Int32)), if_pos (by decide +kernel : iI 0 = (0 : Int32))]
    exact ⟨_, bx, bY, cm, rfl, rfl⟩
theorem x_spriteAt {V : Int → Int} {c : Nat → Int → Int} {S : Nat → Nat → Int32} {d : Nat → Int → Int} {l p : Int} {F : Int → Nat → Nat → Int32} {P : Int → Int} (h : stI V c S d l p F P) (bx bY : Int32) (cm : Nat → Int → Int) {i x y : Int} (hir : -2147483648 ≤ i ∧ i < 2147483648) (hx : -2147483648 ≤ x ∧ x < 2147483648) (hy : -2147483648 ≤ y ∧ y < 2147483648) :
    ∃ (a bx' bY' : Int32) (cm' : Nat → Int → Int), f_X10_spriteAt S (lA (d 2)) (lA (d 3)) (iI i) (iI x) (iI y) = some a ∧ f_X11_spriteAt bx bY (lA V) (lA (cm 0)) (lA (cm 1)) (lA (cm 2)) (lA (cm 3)) (lA (cm 4)) (lA (cm 5)) (iI i) (iI x) (iI y) = some (a, bx', bY', lA (cm' 0), lA (cm' 1), lA (cm' 2), lA (cm' 3), lA (cm' 4), lA (cm' 5)) := by
  obtain ⟨g1, g2, g3, g4, g5⟩ := id h
  obtain ⟨go, gs, gi, gp, gg⟩ := id g1
  have h3 : (V 3 ≤ 4 ∧ V 1 ≤ 32 ∧ V 2 ≤ 32) ∧ (0 ≤ V 7 ∧ V 7 ≤ 1) ∧ (0 ≤ V 8 ∧ V 8 ≤ 3) := by unfold vSet at gs; omega
  have h13 := gp.1
  have hn := gi.1
  obtain ⟨r, e1, e2, e3⟩ := x_onPx gs g2 (by omega) hir hx hy
  unfold f_X10_spriteAt f_X11_spriteAt
  rw [e1, e2, opt_bind, opt_bind]
  rcases e3 with ⟨rfl, z1, z2, z3⟩ | ⟨rfl, -⟩
  · rw [if_neg (by decide +kernel : ¬ iI 1 = (0 : Int32)), if_neg (by decide +kernel : ¬ iI 1 = (0 : Int32))]
    obtain ⟨bx', bY', c', k1, k2⟩ := m_knows gi h3.2 cm bx bY
    have hD : ∀ j, 0 ≤ j → j < V 0 → vDe c' d j := fun j j0 j1 => vDe_Dd (vDd_cEq (vCat_uniq g3 k2) j0 j1 (cat_r gi g3 j j0 j1).1.1 (g4 j j0 j1))
    obtain ⟨o, s1, s2, s3⟩ := x_owner gs gi gp k2 (gg c' k2) g2 (fun j j0 j1 => ⟨(hD j j0 j1).1, (hD j j0 j1).2.1⟩) (p := i) (x := x) (y := y) (by omega) (by omega) (by omega)
    rw [s1, k1, opt_bind, opt_bind]
    refine ⟨_, bx', bY', c', rfl, ?_⟩
    rw [s2, opt_bind]
    by_cases ho : o = -1
    · subst ho
      rfl
    · have o0 := (s3.resolve_left ho).1
      rw [if_neg ho, il_0, if_pos (by rw [iI_le (by omega) (by omega) (by have := o0.1; omega) (by have := o0.2.1; omega)]; exact o0.1)]
  · rw [if_pos (by decide +kernel : iI 0 = (0 : Int32)), if_pos (by decide +kernel : iI 0 = (0 : Int32))]
    exact ⟨_, bx, bY, cm, rfl, rfl⟩
