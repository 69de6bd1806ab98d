def imW (V : Int → Int) (c : Nat → Int → Int) (s : Int) : Int := if V (20 + 72 * s + 6) = 1 then c 3 s else c 2 s
def imH (V : Int → Int) (c : Nat → Int → Int) (s : Int) : Int := if V (20 + 72 * s + 6) = 1 then c 2 s else c 3 s
def imX (V : Int → Int) (s : Int) : Int := V (20 + 72 * s + 4) + V 5 + V 6
def imY (V : Int → Int) (s : Int) : Int := V (20 + 72 * s + 5) + V 5 + V 6
/-- all that is known of a placed sprite -/
def plc (V : Int → Int) (c d : Nat → Int → Int) (S : Nat → Nat → Int32) (s : Int) : Prop :=
  (0 ≤ s ∧ s < 24) ∧ (V (20 + 72 * s + 6) = 0 ∨ V (20 + 72 * s + 6) = 1) ∧ (d 2 s = c 2 s ∧ d 3 s = c 3 s) ∧ (sA S 9 s = V (20 + 72 * s + 4) ∧ sA S 10 s = V (20 + 72 * s + 5) ∧ sA S 11 s = V (20 + 72 * s + 6)) ∧ (S 5 4 = iI (V 5) ∧ S 5 5 = iI (V 6)) ∧
  ((1 ≤ c 2 s ∧ c 2 s ≤ 8) ∧ (1 ≤ c 3 s ∧ c 3 s ≤ 8)) ∧ ((0 ≤ V (20 + 72 * s + 4) ∧ V (20 + 72 * s + 4) ≤ 35) ∧ (0 ≤ V (20 + 72 * s + 5) ∧ V (20 + 72 * s + 5) ≤ 35)) ∧ ((0 ≤ V 5 ∧ V 5 ≤ 3) ∧ (0 ≤ V 6 ∧ V 6 ≤ 2))
theorem plc_of {V : Int → Int} {c d : Nat → Int → Int} {S : Nat → Nat → Int32} (hs : vSet V) (hi : vImg V) (hbl : ∀ j, 0 ≤ j → j < V 0 → vBl V c j) (hg : vGeo V c) (hr : sR V S) (hd : ∀ j, 0 ≤ j → j < V 0 → d 2 j = c 2 j ∧ d 3 j = c 3 j) {s : Int} (s0 : 0 ≤ s) (s1 : s < V 0) (s2 : 0 ≤ V (20 + 72 * s + 3)) : plc V c d S s := by
  have hn := hi.1
  obtain ⟨q1, q2, q3, q4, q5, q6, q7⟩ := geo_r hs hbl hg s0 s1 s2
  have hw := (hg.1 s s0 s1 s2).1.2
  obtain ⟨-, ⟨w1, w2, w3, w4, w5, w6⟩, w7, w8⟩ := (hbl s s0 s1).resolve_left (by omega)
  have e4 : S 5 4 = iI (V 5) := hr.2.1 4 (by omega)
  have e5 : S 5 5 = iI (V 6) := hr.2.1 5 (by omega)
  have hv : (0 ≤ V 5 ∧ V 5 ≤ 3) ∧ (0 ≤ V 6 ∧ V 6 ≤ 2) ∧ fldW V ≤ 35 ∧ fldH V ≤ 35 := by unfold vSet at hs; unfold fldW fldH; omega
  exact ⟨⟨s0, by omega⟩, q1, hd s s0 s1, (hr.2.2.1 s s0 s1).2.2.2.2 s2, ⟨e4, e5⟩, by omega, by omega, by omega⟩
theorem c_imX {V : Int → Int} {c d : Nat → Int → Int} {S : Nat → Nat → Int32} {s : Int} (h : plc V c d S s) : f_X3_imageColumn S (iI s) = some (iI (imX V s)) := by
  obtain ⟨h1, h2, h3, ⟨h4, h5, h6⟩, ⟨h7, h8⟩, -⟩ := h
  unfold f_X3_imageColumn imX
  rw [sA_lA S 9, rd_lA _ _ (by omega) (by omega) (by omega), h4, h7, h8, iI_add, iI_add]
theorem c_imY {V : Int → Int} {c d : Nat → Int → Int} {S : Nat → Nat → Int32} {s : Int} (h : plc V c d S s) : f_X3_imageRow S (iI s) = some (iI (imY V s)) := by
  obtain ⟨h1, h2, h3, ⟨h4, h5, h6⟩, ⟨h7, h8⟩, -⟩ := h
  unfold f_X3_imageRow imY
  rw [sA_lA S 10, rd_lA _ _ (by omega) (by omega) (by omega), h5, h7, h8, iI_add, iI_add]
theorem c_imW {V : Int → Int} {c d : Nat → Int → Int} {S : Nat → Nat → Int32} {s : Int} (h : plc V c d S s) : f_X3_imageWidth S (lA (d 2)) (lA (d 3)) (iI s) = some (iI (imW V c s)) := by
  obtain ⟨h1, h2, ⟨h3, h3'⟩, ⟨h4, h5, h6⟩, -⟩ := h
  unfold f_X3_imageWidth imW
  rw [sA_lA S 11, rd_lA _ _ (by omega) (by omega) (by omega), h6]
  rcases h2 with h2 | h2
  · rw [h2, if_pos (by decide +kernel : iI 0 = (0 : Int32)), rd_lA _ _ (by omega) (by omega) (by omega), h3, if_neg (by decide)]
  · rw [h2, if_neg (by decide +kernel : ¬ iI 1 = (0 : Int32)), rd_lA _ _ (by omega) (by omega) (by omega), h3', if_pos rfl]
theorem c_imH {V : Int → Int} {c d : Nat → Int → Int} {S : Nat → Nat → Int32} {s : Int} (h : plc V c d S s) : f_X3_imageHeight S (lA (d 2)) (lA (d 3)) (iI s) = some (iI (imH V c s)) := by
  obtain ⟨h1, h2, ⟨h3, h3'⟩, ⟨h4, h5, h6⟩, -⟩ := h
  unfold f_X3_imageHeight imH
  rw [sA_lA S 11, rd_lA _ _ (by omega) (by omega) (by omega), h6]
  rcases h2 with h2 | h2
  · rw [h2, if_pos (by decide +kernel : iI 0 = (0 : Int32)), rd_lA _ _ (by omega) (by omega) (by omega), h3', if_neg (by decide)]
  · rw [h2, if_neg (by decide +kernel : ¬ iI 1 = (0 : Int32)), rd_lA _ _ (by omega) (by omega) (by omega), h3, if_pos rfl]
theorem m_imX {V : Int → Int} {s : Int} (h1 : 0 ≤ s ∧ s < 24) : f_X11_columnOf (lA V) (iI s) = some (iI (imX V s)) := by
  unfold f_X11_columnOf f_X11_at imX
  simp (disch := omega) only [↓bd_e, ↓jn_e, ↓opt_bind, ↓reduceIte, iLeT, iLeF, iLtT, iLtF, iEqT, iEqF, il_0, il_1, il_2, il_3, il_4, il_5, il_6, il_7, il_8, il_9, il_10, il_11, il_12, il_13, il_14, il_15, il_16, il_18, il_20, il_24, il_32, il_35, il_40, il_44, il_47, il_48, il_56, il_57, il_58, il_59, il_63, il_64, il_72, il_100, il_120, il_126, il_127, il_160, il_192, il_255, il_349, il_1748, il_6992, iI_add, iI_sub, iI_mul, iI_neg, iI_le, iI_lt, iI_eq, rd_lA, wr_lA, rd_lR, wr_lR, ite_iI, max_iI, min_iI, rem_iI, div_iI, ite_true, ite_false, if_true, if_false, ite_self, and_self, and_true, true_and, and_false, false_and, or_self, or_true, true_or, or_false, false_or, not_true_eq_false, not_false_eq_true]
theorem m_imY {V : Int → Int} {s : Int} (h1 : 0 ≤ s ∧ s < 24) : f_X11_rowOf (lA V) (iI s) = some (iI (imY V s)) := by
  unfold f_X11_rowOf f_X11_at imY
  simp (disch := omega) only [↓bd_e, ↓jn_e, ↓opt_bind, ↓reduceIte, iLeT, iLeF, iLtT, iLtF, iEqT, iEqF, il_0, il_1, il_2, il_3, il_4, il_5, il_6, il_7, il_8, il_9, il_10, il_11, il_12, il_13, il_14, il_15, il_16, il_18, il_20, il_24, il_32, il_35, il_40, il_44, il_47, il_48, il_56, il_57, il_58, il_59, il_63, il_64, il_72, il_100, il_120, il_126, il_127, il_160, il_192, il_255, il_349, il_1748, il_6992, iI_add, iI_sub, iI_mul, iI_neg, iI_le, iI_lt, iI_eq, rd_lA, wr_lA, rd_lR, wr_lR, ite_iI, max_iI, min_iI, rem_iI, div_iI, ite_true, ite_false, if_true, if_false, ite_self, and_self, and_true, true_and, and_false, false_and, or_self, or_true, true_or, or_false, false_or, not_true_eq_false, not_false_eq_true]
theorem m_imW {V : Int → Int} {c d : Nat → Int → Int} {S : Nat → Nat → Int32} {s : Int} (h : plc V c d S s) : f_X11_imageWidth (lA (c 2)) (lA (c 3)) (iI s) (iI (V (20 + 72 * s + 6))) = some (iI (imW V c s)) := by
  obtain ⟨h1, h2, -⟩ := h
  unfold f_X11_imageWidth imW
  rcases h2 with h2 | h2
  · rw [h2, if_neg (by decide +kernel : ¬ iI 0 = (1 : Int32)), rd_lA _ _ (by omega) (by omega) (by omega), if_neg (by decide)]
  · rw [h2, if_pos (by decide +kernel : iI 1 = (1 : Int32)), rd_lA _ _ (by omega) (by omega) (by omega), if_pos rfl]
theorem m_imH {V : Int → Int} {c d : Nat → Int → Int} {S : Nat → Nat → Int32} {s : Int} (h : plc V c d S s) : f_X11_imageHeight (lA (c 2)) (lA (c 3)) (iI s) (iI (V (20 + 72 * s + 6))) = some (iI (imH V c s)) := by
  obtain ⟨h1, h2, -⟩ := h
  unfold f_X11_imageHeight imH
  rcases h2 with h2 | h2
  · rw [h2, if_neg (by decide +kernel : ¬ iI 0 = (1 : Int32)), rd_lA _ _ (by omega) (by omega) (by omega), if_neg (by decide)]
  · rw [h2, if_pos (by decide +kernel : iI 1 = (1 : Int32)), rd_lA _ _ (by omega) (by omega) (by omega), if_pos rfl]
theorem im_r {V : Int → Int} {c d : Nat → Int → Int} {S : Nat → Nat → Int32} {s : Int} (h : plc V c d S s) : (1 ≤ imW V c s ∧ imW V c s ≤ 8) ∧ (1 ≤ imH V c s ∧ imH V c s ≤ 8) ∧ (0 ≤ imX V s ∧ imX V s ≤ 40) ∧ (0 ≤ imY V s ∧ imY V s ≤ 40) ∧ (0 ≤ V 6 ∧ V 6 ≤ 2) := by
  obtain ⟨h1, h2, -, -, -, h3, h4, h5⟩ := h
  unfold imW imH imX imY
  refine ⟨by split <;> omega, by split <;> omega, by omega, by omega, by omega⟩
/-- the pixel lies on the image of a placed sprite, with extrusion -/
def own (V : Int → Int) (c : Nat → Int → Int) (p x y s : Int) : Prop := onPg V p s ∧ (imX V s - V 6 ≤ x ∧ x ≤ imX V s + imW V c s + V 6 - 1) ∧ (imY V s - V 6 ≤ y ∧ y ≤ imY V s + imH V c s + V 6 - 1)
theorem x_owner {V : Int → Int} {c d : Nat → Int → Int} {S : Nat → Nat → Int32} (hs : vSet V) (hi : vImg V) (hp : vPlc V) (hc : vCat V c) (hg : vGeo V c) (hr : sR V S) (hd : ∀ j, 0 ≤ j → j < V 0 → d 2 j = c 2 j ∧ d 3 j = c 3 j) {p x y : Int} (p0 : 0 ≤ p ∧ p < 100) (x0 : 0 ≤ x ∧ x < 100) (y0 : 0 ≤ y ∧ y < 100) :
    ∃ o, f_X3_ownerOf S (lA (d 2)) (lA (d 3)) (iI p) (iI x) (iI y) = some (iI (if o = -1 then -4 else o)) ∧ f_X11_ownerAt (lA V) (lA (c 2)) (lA (c 3)) (iI p) (iI x) (iI y) = some (iI o) ∧ (o = -1 ∨ own V c p x y o) := by
  have hn := hi.1
  have h3 : V 3 ≤ 4 := by unfold vSet at hs; omega
  have h13 := hp.1
  have e0 : S 0 0 = iI (V 0) := hr.1.1
  have e5 : S 5 5 = iI (V 6) := hr.2.1 5 (by omega)
  have h6 : 0 ≤ V 6 ∧ V 6 ≤ 2 := by unfold vSet at hs; omega
  unfold f_X3_ownerOf f_X11_ownerAt
  obtain ⟨fu, hfu, hfu2⟩ := fuel_ex; rw [hfu]
  rw [il_6, rd_lA _ _ (by omega) (by omega) (by omega), il_0]
  refine lpp (fun n s (u : Unit) => (f_X3_ownerOf_L15 S (lA (d 2)) (lA (d 3)) (iI p) (iI x) (iI y) n (iI s), f_X11_ownerAt_L12 (lA V) (lA (c 2)) (lA (c 3)) (iI p) (iI x) (iI y) (iI (V 6)) n (iI s))) (fun r => ∃ o, r.1 = some (iI (if o = -1 then -4 else o)) ∧ r.2 = some (iI o) ∧ (o = -1 ∨ own V c p x y o)) (V 0) (fun s u => 0 ≤ s) ?_ ?_ fu 0 () (by omega) (by omega) (by omega)
  · rintro n u -
    refine ⟨-1, ?_, ?_, Or.inl rfl⟩
    · show f_X3_ownerOf_L15 S _ _ _ _ _ (n + 1) (iI (V 0)) = _
      rw [f_X3_ownerOf_L15, e0, if_pos (Int32.le_refl _), if_pos rfl]
      decide +kernel
    · show f_X11_ownerAt_L12 _ _ _ _ _ _ _ (n + 1) (iI (V 0)) = _
      rw [f_X11_ownerAt_L12, il_0, rd_lA _ _ (by omega) (by omega) (by omega), if_pos (Int32.le_refl _)]
      decide +kernel
  · rintro n s u hs1 s0 ih
    have ih := ih () (by omega)
    have hpg := hp.2.1 s s0 hs1
    have e8 := hr.2.2.2.2.1 s s0 (by omega)
    show ∃ o, f_X3_ownerOf_L15 S _ _ _ _ _ (n + 1) (iI s) = _ ∧ f_X11_ownerAt_L12 _ _ _ _ _ _ _ (n + 1) (iI s) = _ ∧ _
    rw [f_X3_ownerOf_L15, f_X11_ownerAt_L12, e0, e5, sA_lA S 8]
    by_cases hon : V (20 + 72 * s + 3) = p
    · have hpl := plc_of hs hi (vCat_bl hi hc) hg hr hd s0 hs1 (by omega)
      rw [if_pos ⟨hs1, by omega⟩] at e8
      have r := im_r hpl
      have a1 := c_imX hpl
      have a2 := c_imY hpl
      have a3 := c_imW hpl
      have a4 := c_imH hpl
      have b1 := m_imX (V := V) (s := s) (by omega)
      have b2 := m_imY (V := V) (s := s) (by omega)
      have b3 := m_imW hpl
      have b4 := m_imH hpl
      by_cases ho : own V c p x y s
      · obtain ⟨-, ⟨o1, o2⟩, o3, o4⟩ := id ho
        refine ⟨s, ?_, ?_, Or.inr ho⟩
        · simp (disch := omega) only [↓bd_e, ↓jn_e, ↓opt_bind, ↓reduceIte, iLeT, iLeF, iLtT, iLtF, iEqT, iEqF, il_0, il_1, il_2, il_3, il_4, il_5, il_6, il_7, il_8, il_9, il_10, il_11, il_12, il_13, il_14, il_15, il_16, il_18, il_20, il_24, il_32, il_35, il_40, il_44, il_47, il_48, il_56, il_57, il_58, il_59, il_63, il_64, il_72, il_100, il_120, il_126, il_127, il_160, il_192, il_255, il_349, il_1748, il_6992, iI_add, iI_sub, iI_mul, iI_neg, iI_le, iI_lt, iI_eq, rd_lA, wr_lA, rd_lR, wr_lR, ite_iI, max_iI, min_iI, rem_iI, div_iI, ite_true, ite_false, if_true, if_false, ite_self, and_self, and_true, true_and, and_false, false_and, or_self, or_true, true_or, or_false, false_or, not_true_eq_false, not_false_eq_true, e8, a1, a2, a3, a4]
        · simp (disch := omega) only [↓bd_e, ↓jn_e, ↓opt_bind, ↓reduceIte, iLeT, iLeF, iLtT, iLtF, iEqT, iEqF, il_0, il_1, il_2, il_3, il_4, il_5, il_6, il_7, il_8, il_9, il_10, il_11, il_12, il_13, il_14, il_15, il_16, il_18, il_20, il_24, il_32, il_35, il_40, il_44, il_47, il_48, il_56, il_57, il_58, il_59, il_63, il_64, il_72, il_100, il_120, il_126, il_127, il_160, il_192, il_255, il_349, il_1748, il_6992, iI_add, iI_sub, iI_mul, iI_neg, iI_le, iI_lt, iI_eq, rd_lA, wr_lA, rd_lR, wr_lR, ite_iI, max_iI, min_iI, rem_iI, div_iI, ite_true, ite_false, if_true, if_false, ite_self, and_self, and_true, true_and, and_false, false_and, or_self, or_true, true_or, or_false, false_or, not_true_eq_false, not_false_eq_true, f_X11_at, b1, b2, b3, b4, in_iI]
      · by_cases o1 : imX V s - V 6 ≤ x
        · by_cases o2 : x ≤ imX V s + imW V c s + V 6 - 1
          · by_cases o3 : imY V s - V 6 ≤ y
            · have o4 : ¬ y ≤ imY V s + imH V c s + V 6 - 1 := fun o4 => ho ⟨⟨s0, hs1, hon⟩, ⟨o1, o2⟩, o3, o4⟩
              simp (disch := omega) only [↓bd_e, ↓jn_e, ↓opt_bind, ↓reduceIte, iLeT, iLeF, iLtT, iLtF, iEqT, iEqF, il_0, il_1, il_2, il_3, il_4, il_5, il_6, il_7, il_8, il_9, il_10, il_11, il_12, il_13, il_14, il_15, il_16, il_18, il_20, il_24, il_32, il_35, il_40, il_44, il_47, il_48, il_56, il_57, il_58, il_59, il_63, il_64, il_72, il_100, il_120, il_126, il_127, il_160, il_192, il_255, il_349, il_1748, il_6992, iI_add, iI_sub, iI_mul, iI_neg, iI_le, iI_lt, iI_eq, rd_lA, wr_lA, rd_lR, wr_lR, ite_iI, max_iI, min_iI, rem_iI, div_iI, ite_true, ite_false, if_true, if_false, ite_self, and_self, and_true, true_and, and_false, false_and, or_self, or_true, true_or, or_false, false_or, not_true_eq_false, not_false_eq_true, e8, a1, a2, a3, a4, f_X11_at, b1, b2, b3, b4, in_iI]
              exact ih
            · simp (disch := omega) only [↓bd_e, ↓jn_e, ↓opt_bind, ↓reduceIte, iLeT, iLeF, iLtT, iLtF, iEqT, iEqF, il_0, il_1, il_2, il_3, il_4, il_5, il_6, il_7, il_8, il_9, il_10, il_11, il_12, il_13, il_14, il_15, il_16, il_18, il_20, il_24, il_32, il_35, il_40, il_44, il_47, il_48, il_56, il_57, il_58, il_59, il_63, il_64, il_72, il_100, il_120, il_126, il_127, il_160, il_192, il_255, il_349, il_1748, il_6992, iI_add, iI_sub, iI_mul, iI_neg, iI_le, iI_lt, iI_eq, rd_lA, wr_lA, rd_lR, wr_lR, ite_iI, max_iI, min_iI, rem_iI, div_iI, ite_true, ite_false, if_true, if_false, ite_self, and_self, and_true, true_and, and_false, false_and, or_self, or_true, true_or, or_false, false_or, not_true_eq_false, not_false_eq_true, e8, a1, a2, a3, a4, f_X11_at, b1, b2, b3, b4, in_iI]
              exact ih
          · simp (disch := omega) only [↓bd_e, ↓jn_e, ↓opt_bind, ↓reduceIte, iLeT, iLeF, iLtT, iLtF, iEqT, iEqF, il_0, il_1, il_2, il_3, il_4, il_5, il_6, il_7, il_8, il_9, il_10, il_11, il_12, il_13, il_14, il_15, il_16, il_18, il_20, il_24, il_32, il_35, il_40, il_44, il_47, il_48, il_56, il_57, il_58, il_59, il_63, il_64, il_72, il_100, il_120, il_126, il_127, il_160, il_192, il_255, il_349, il_1748, il_6992, iI_add, iI_sub, iI_mul, iI_neg, iI_le, iI_lt, iI_eq, rd_lA, wr_lA, rd_lR, wr_lR, ite_iI, max_iI, min_iI, rem_iI, div_iI, ite_true, ite_false, if_true, if_false, ite_self, and_self, and_true, true_and, and_false, false_and, or_self, or_true, true_or, or_false, false_or, not_true_eq_false, not_false_eq_true, e8, a1, a2, a3, a4, f_X11_at, b1, b2, b3, b4, in_iI]
            exact ih
        · simp (disch := omega) only [↓bd_e, ↓jn_e, ↓opt_bind, ↓reduceIte, iLeT, iLeF, iLtT, iLtF, iEqT, iEqF, il_0, il_1, il_2, il_3, il_4, il_5, il_6, il_7, il_8, il_9, il_10, il_11, il_12, il_13, il_14, il_15, il_16, il_18, il_20, il_24, il_32, il_35, il_40, il_44, il_47, il_48, il_56, il_57, il_58, il_59, il_63, il_64, il_72, il_100, il_120, il_126, il_127, il_160, il_192, il_255, il_349, il_1748, il_6992, iI_add, iI_sub, iI_mul, iI_neg, iI_le, iI_lt, iI_eq, rd_lA, wr_lA, rd_lR, wr_lR, ite_iI, max_iI, min_iI, rem_iI, div_iI, ite_true, ite_false, if_true, if_false, ite_self, and_self, and_true, true_and, and_false, false_and, or_self, or_true, true_or, or_false, false_or, not_true_eq_false, not_false_eq_true, e8, a1, a2, a3, a4, f_X11_at, b1, b2, b3, b4, in_iI]
          exact ih
    · have e8' : ¬ sA S 8 s = p ∧ -4 ≤ sA S 8 s ∧ sA S 8 s < 100 := by
        rw [e8]
        split <;> omega
      simp (disch := omega) only [↓bd_e, ↓jn_e, ↓opt_bind, ↓reduceIte, iLeT, iLeF, iLtT, iLtF, iEqT, iEqF, il_0, il_1, il_2, il_3, il_4, il_5, il_6, il_7, il_8, il_9, il_10, il_11, il_12, il_13, il_14, il_15, il_16, il_18, il_20, il_24, il_32, il_35, il_40, il_44, il_47, il_48, il_56, il_57, il_58, il_59, il_63, il_64, il_72, il_100, il_120, il_126, il_127, il_160, il_192, il_255, il_349, il_1748, il_6992, iI_add, iI_sub, iI_mul, iI_neg, iI_le, iI_lt, iI_eq, rd_lA, wr_lA, rd_lR, wr_lR, ite_iI, max_iI, min_iI, rem_iI, div_iI, ite_true, ite_false, if_true, if_false, ite_self, and_self, and_true, true_and, and_false, false_and, or_self, or_true, true_or, or_false, false_or, not_true_eq_false, not_false_eq_true, f_X11_at]
      exact ih
