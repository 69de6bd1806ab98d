/-! free rectangles after calls that leave the placements; printed -/
theorem blk_mo {V V' : Int → Int} {c c' : Nat → Int → Int} (h : vMo V V') (hc : cEq (V 0) c c') {p : Int} (p0 : 0 ≤ p) : blk V c p = blk V' c' p := by
  obtain ⟨m0, m1, m2, m3⟩ := h
  have hb : ∀ s, 0 ≤ s → s < V 0 → ∀ t, bxW V c s t = bxW V' c' s t ∧ bxH V c s t = bxH V' c' s t := by
    intro s s0 s1 t
    obtain ⟨e2, e3, -⟩ := hc s s0 s1
    unfold bxW bxH
    rw [e2, e3, m1 6 (by omega) (by omega), m1 4 (by omega) (by omega)]
    exact ⟨rfl, rfl⟩
  funext x
  funext y
  refine propext ⟨?_, ?_⟩
  · rintro ⟨s, ⟨s0, s1, s2⟩, z⟩
    rw [(hb s s0 s1 _).1, (hb s s0 s1 _).2, ← m2 s 4 s0 s1 (by omega) (by omega), ← m2 s 5 s0 s1 (by omega) (by omega), ← m2 s 6 s0 s1 (by omega) (by omega)] at z
    exact ⟨s, ⟨s0, by omega, by rw [m2 s 3 s0 s1 (by omega) (by omega)]; exact s2⟩, z⟩
  · rintro ⟨s, ⟨s0, s1, s2⟩, z⟩
    by_cases hs : s < V 0
    · rw [m2 s 4 s0 hs (by omega) (by omega), m2 s 5 s0 hs (by omega) (by omega), m2 s 6 s0 hs (by omega) (by omega), ← (hb s s0 hs _).1, ← (hb s s0 hs _).2] at z
      exact ⟨s, ⟨s0, hs, by rw [← m2 s 3 s0 hs (by omega) (by omega)]; exact s2⟩, z⟩
    · have := (m3 s (by omega) s1).1
      omega
theorem spI_mo {V V' : Int → Int} {c c' : Nat → Int → Int} {K N : Int → Int} (h : vMo V V') (hc : cEq (V 0) c c') (g : spI V c K N) : spI V' c' K N := by
  intro p p0 p1
  have e13 := h.2.1 13 (by omega) (by omega)
  have eW : fldW V' = fldW V := by unfold fldW; rw [h.2.1 1 (by omega) (by omega), h.2.1 5 (by omega) (by omega), h.2.1 4 (by omega) (by omega)]
  have eH : fldH V' = fldH V := by unfold fldH; rw [h.2.1 2 (by omega) (by omega), h.2.1 5 (by omega) (by omega), h.2.1 4 (by omega) (by omega)]
  rw [← blk_mo h hc p0, eW, eH]
  exact g p p0 (by omega)
theorem spI_gr {V V' : Int → Int} {c : Nat → Int → Int} {K N : Int → Int} (h1 : ∀ k, k < 20 → V' k = V k) (h2 : ∀ j k, 0 ≤ j → 3 ≤ k → k < 7 → V' (20 + 72 * j + k) = V (20 + 72 * j + k)) (g : spI V c K N) : spI V' c K N := by
  intro p p0 p1
  have eW : fldW V' = fldW V := by unfold fldW; rw [h1 1 (by omega), h1 5 (by omega), h1 4 (by omega)]
  have eH : fldH V' = fldH V := by unfold fldH; rw [h1 2 (by omega), h1 5 (by omega), h1 4 (by omega)]
  have hb : ∀ s t, bxW V' c s t = bxW V c s t ∧ bxH V' c s t = bxH V c s t := by
    intro s t
    unfold bxW bxH
    rw [h1 6 (by omega), h1 4 (by omega)]
    exact ⟨rfl, rfl⟩
  have eB : blk V' c p = blk V c p := by
    funext x
    funext y
    refine propext ⟨?_, ?_⟩
    · rintro ⟨s, ⟨s0, s1, s2⟩, z⟩
      rw [(hb s _).1, (hb s _).2, h2 s 4 s0 (by omega) (by omega), h2 s 5 s0 (by omega) (by omega), h2 s 6 s0 (by omega) (by omega)] at z
      rw [h1 0 (by omega)] at s1
      rw [h2 s 3 s0 (by omega) (by omega)] at s2
      exact ⟨s, ⟨s0, s1, s2⟩, z⟩
    · rintro ⟨s, ⟨s0, s1, s2⟩, z⟩
      rw [← (hb s _).1, ← (hb s _).2, ← h2 s 4 s0 (by omega) (by omega), ← h2 s 5 s0 (by omega) (by omega), ← h2 s 6 s0 (by omega) (by omega)] at z
      rw [← h1 0 (by omega)] at s1
      rw [← h2 s 3 s0 (by omega) (by omega)] at s2
      exact ⟨s, ⟨s0, s1, s2⟩, z⟩
  rw [eB, eW, eH]
  exact g p p0 (by rw [← h1 13 (by omega)]; exact p1)
theorem spI_stU {V V' : Int → Int} {c c' : Nat → Int → Int} {K N : Int → Int} (h : stU V V' c c') (g : spI V c K N) : spI V' c' K N := by
  rcases h with ⟨rfl, rfl⟩ | h
  · exact g
  · intro p p0 p1
    omega
theorem m_printed {t : List Int} {pr : Int} {A : Int → Int} (h : paR t pr A) (hl : t.length ≤ 100) (k : Int) (hk : -2147483648 ≤ k ∧ k < 2147483648) :
    (k < 0 → f_X11_printed (iI pr) (lA A) (iI k) = some (iI (-1))) ∧ (0 ≤ k → (t.length : Int) ≤ k → f_X11_printed (iI pr) (lA A) (iI k) = some (iI (-4))) ∧ ∀ (j : Nat) (x : Int), k = j → t[j]? = some x → f_X11_printed (iI pr) (lA A) (iI k) = some (iI x) := by
  obtain ⟨h1, h2⟩ := h
  subst h1
  unfold f_X11_printed
  refine ⟨fun hk0 => ?_, fun hk0 hk1 => ?_, fun j x hj hx => ?_⟩
  · simp (disch := omega) only [↓bd_e, ↓jn_e, ↓opt_bind, ↓reduceIte, iLeT, iLeF, iLtT, iLtF, iEqT, iEqF, il_0, il_1, il_2, il_3, il_4, il_5, il_6, il_7, il_8, il_9, il_10, il_11, il_12, il_13, il_14, il_15, il_16, il_18, il_20, il_24, il_32, il_35, il_40, il_44, il_47, il_48, il_56, il_57, il_58, il_59, il_63, il_64, il_72, il_100, il_120, il_126, il_127, il_160, il_192, il_255, il_349, il_1748, il_6992, iI_add, iI_sub, iI_mul, iI_neg, iI_le, iI_lt, iI_eq, rd_lA, wr_lA, rd_lR, wr_lR, ite_iI, max_iI, min_iI, rem_iI, div_iI, ite_true, ite_false, if_true, if_false, ite_self, and_self, and_true, true_and, and_false, false_and, or_self, or_true, true_or, or_false, false_or, not_true_eq_false, not_false_eq_true]
  · simp (disch := omega) only [↓bd_e, ↓jn_e, ↓opt_bind, ↓reduceIte, iLeT, iLeF, iLtT, iLtF, iEqT, iEqF, il_0, il_1, il_2, il_3, il_4, il_5, il_6, il_7, il_8, il_9, il_10, il_11, il_12, il_13, il_14, il_15, il_16, il_18, il_20, il_24, il_32, il_35, il_40, il_44, il_47, il_48, il_56, il_57, il_58, il_59, il_63, il_64, il_72, il_100, il_120, il_126, il_127, il_160, il_192, il_255, il_349, il_1748, il_6992, iI_add, iI_sub, iI_mul, iI_neg, iI_le, iI_lt, iI_eq, rd_lA, wr_lA, rd_lR, wr_lR, ite_iI, max_iI, min_iI, rem_iI, div_iI, ite_true, ite_false, if_true, if_false, ite_self, and_self, and_true, true_and, and_false, false_and, or_self, or_true, true_or, or_false, false_or, not_true_eq_false, not_false_eq_true]
  · have hb := (List.getElem?_eq_some_iff.mp hx).1
    have e := h2 j x hx
    rw [← hj] at e
    simp (disch := omega) only [↓bd_e, ↓jn_e, ↓opt_bind, ↓reduceIte, iLeT, iLeF, iLtT, iLtF, iEqT, iEqF, il_0, il_1, il_2, il_3, il_4, il_5, il_6, il_7, il_8, il_9, il_10, il_11, il_12, il_13, il_14, il_15, il_16, il_18, il_20, il_24, il_32, il_35, il_40, il_44, il_47, il_48, il_56, il_57, il_58, il_59, il_63, il_64, il_72, il_100, il_120, il_126, il_127, il_160, il_192, il_255, il_349, il_1748, il_6992, iI_add, iI_sub, iI_mul, iI_neg, iI_le, iI_lt, iI_eq, rd_lA, wr_lA, rd_lR, wr_lR, ite_iI, max_iI, min_iI, rem_iI, div_iI, ite_true, ite_false, if_true, if_false, ite_self, and_self, and_true, true_and, and_false, false_and, or_self, or_true, true_or, or_false, false_or, not_true_eq_false, not_false_eq_true, e]
