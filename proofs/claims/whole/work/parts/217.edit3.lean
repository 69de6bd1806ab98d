/-! the sizes and margins; drop -/
theorem x_setPageSize {V : Int → Int} {c : Nat → Int → Int} {S : Nat → Nat → Int32} {d : Nat → Int → Int} {l p : Int} {H0 H1 H2 H3 H4 : Nat → Nat → Int32} {P : Int → Int} (h : stI V c S d l p (hF H0 H1 H2 H3 H4) P) (w : Int) (hw : -2147483648 ≤ w ∧ w < 2147483648) (z : Int) (hz : -2147483648 ≤ z ∧ z < 2147483648) :
    ∃ a V' c' S' d' l' p' K0 K1 K2 K3 K4 P', f_X10_setPageSize S (lA (d 0)) (lA (d 1)) (lA (d 2)) (lA (d 3)) (lA (d 4)) (lA (d 5)) (iI l) (iI p) H0 H1 H2 H3 H4 (iI w) (iI z) = some (a, S', lA (d' 0), lA (d' 1), lA (d' 2), lA (d' 3), lA (d' 4), lA (d' 5), iI l', iI p', K0, K1, K2, K3, K4) ∧
      f_X11_setPageSize (iI p) (lA V) (lA P) (iI w) (iI z) = some (a, iI p', lA V', lA P') ∧ stI V' c' S' d' l' p' (hF K0 K1 K2 K3 K4) P' ∧ stU V V' c c' := by
  obtain ⟨⟨g0, g1, g2, g3, g4⟩, gr, gc, gd, gh⟩ := id h
  have e50 : S 5 0 = iI (V 1) := gr.2.1 0 (by omega)
  have e51 : S 5 1 = iI (V 2) := gr.2.1 1 (by omega)
  have ha1 := within_iI (a := w) (b := 4) (c := 32) (by omega) (by omega) (by omega) (by omega) (by omega) (by omega)
  have hb1 := within_iI (a := z) (b := 4) (c := 32) (by omega) (by omega) (by omega) (by omega) (by omega) (by omega)
  have ha2 := in_iI (a := w) (b := 4) (c := 32) (by omega) (by omega) (by omega) (by omega) (by omega) (by omega)
  have hb2 := in_iI (a := z) (b := 4) (c := 32) (by omega) (by omega) (by omega) (by omega) (by omega) (by omega)
  unfold f_X10_setPageSize f_X11_setPageSize
  by_cases hw1 : 4 ≤ w ∧ w ≤ 32
  · rw [if_pos hw1] at ha1 ha2
    by_cases hz1 : 4 ≤ z ∧ z ≤ 32
    · rw [if_pos hz1] at hb1 hb2
      obtain ⟨K0, K1, K2, K3, K4, P', S3, c', d', e1, e2, e3, e4⟩ := x_set h (V2 := uI (uI V 1 w) 2 z) (S2 := updC S 5 (upd (upd (S 5) 0 (iI w)) 1 (iI z))) (vOut_uI (vOut_uI g0 (by omega)) (by omega)) (by unfold vSet at g1 ⊢; simp (disch := omega) only [↓bd_e, ↓jn_e, ↓opt_bind, ↓reduceIte, iLeT, iLeF, iLtT, iLtF, iEqT, iEqF, il_0, il_1, il_2, il_3, il_4, il_5, il_6, il_7, il_8, il_9, il_10, il_11, il_12, il_13, il_14, il_15, il_16, il_18, il_20, il_24, il_32, il_35, il_40, il_44, il_47, il_48, il_56, il_57, il_58, il_59, il_63, il_64, il_72, il_100, il_120, il_126, il_127, il_160, il_192, il_255, il_349, il_1748, il_6992, iI_add, iI_sub, iI_mul, iI_neg, iI_le, iI_lt, iI_eq, rd_lA, wr_lA, rd_lR, wr_lR, ite_iI, max_iI, min_iI, rem_iI, div_iI, ite_true, ite_false, if_true, if_false, ite_self, and_self, and_true, true_and, and_false, false_and, or_self, or_true, true_or, or_false, false_or, not_true_eq_false, not_false_eq_true, uI_at]) (vImg_uI (vImg_uI g2 (by omega)) (by omega)) (vPgr_uI (vPgr_uI g3.2.2 (by omega)) (by omega))
        (sR2_set (vImg_uI g2 (by omega)) (k := 1) (by omega) z (F := upd (S 5) 0 (iI w)) (sR2_set1 g2 (k := 0) (by omega) rfl w (sR_2 gr)))
      have hV : uI (vE (uI V 1 w)) 2 z = vE (uI (uI V 1 w) 2 z) := vE_uI (by omega)
      refine ⟨iI (100 * V 1 + V 2), _, c', _, d', _, _, K0, K1, K2, K3, K4, P', ?_, ?_, e4 (S 6), Or.inr rfl⟩
      · simp (disch := omega) only [↓bd_e, ↓jn_e, ↓opt_bind, ↓reduceIte, iLeT, iLeF, iLtT, iLtF, iEqT, iEqF, il_0, il_1, il_2, il_3, il_4, il_5, il_6, il_7, il_8, il_9, il_10, il_11, il_12, il_13, il_14, il_15, il_16, il_18, il_20, il_24, il_32, il_35, il_40, il_44, il_47, il_48, il_56, il_57, il_58, il_59, il_63, il_64, il_72, il_100, il_120, il_126, il_127, il_160, il_192, il_255, il_349, il_1748, il_6992, iI_add, iI_sub, iI_mul, iI_neg, iI_le, iI_lt, iI_eq, rd_lA, wr_lA, rd_lR, wr_lR, ite_iI, max_iI, min_iI, rem_iI, div_iI, ite_true, ite_false, if_true, if_false, ite_self, and_self, and_true, true_and, and_false, false_and, or_self, or_true, true_or, or_false, false_or, not_true_eq_false, not_false_eq_true, ha1, hb1, e1, e3, e50, e51]
      · have em := m_sets (V := V) (P := P) (k := 1) (x := w) (by omega) e2
        simp (disch := omega) only [↓bd_e, ↓jn_e, ↓opt_bind, ↓reduceIte, iLeT, iLeF, iLtT, iLtF, iEqT, iEqF, il_0, il_1, il_2, il_3, il_4, il_5, il_6, il_7, il_8, il_9, il_10, il_11, il_12, il_13, il_14, il_15, il_16, il_18, il_20, il_24, il_32, il_35, il_40, il_44, il_47, il_48, il_56, il_57, il_58, il_59, il_63, il_64, il_72, il_100, il_120, il_126, il_127, il_160, il_192, il_255, il_349, il_1748, il_6992, iI_add, iI_sub, iI_mul, iI_neg, iI_le, iI_lt, iI_eq, rd_lA, wr_lA, rd_lR, wr_lR, ite_iI, max_iI, min_iI, rem_iI, div_iI, ite_true, ite_false, if_true, if_false, ite_self, and_self, and_true, true_and, and_false, false_and, or_self, or_true, true_or, or_false, false_or, not_true_eq_false, not_false_eq_true, ha2, hb2, em, hV]
        rw [Int.add_comm]
    · rw [if_neg hz1] at hb1 hb2
      refine ⟨iI (-1), V, c, S, d, l, p, H0, H1, H2, H3, H4, P, ?_, ?_, h, Or.inl ⟨rfl, rfl⟩⟩
      · simp (disch := omega) only [↓bd_e, ↓jn_e, ↓opt_bind, ↓reduceIte, iLeT, iLeF, iLtT, iLtF, iEqT, iEqF, il_0, il_1, il_2, il_3, il_4, il_5, il_6, il_7, il_8, il_9, il_10, il_11, il_12, il_13, il_14, il_15, il_16, il_18, il_20, il_24, il_32, il_35, il_40, il_44, il_47, il_48, il_56, il_57, il_58, il_59, il_63, il_64, il_72, il_100, il_120, il_126, il_127, il_160, il_192, il_255, il_349, il_1748, il_6992, iI_add, iI_sub, iI_mul, iI_neg, iI_le, iI_lt, iI_eq, rd_lA, wr_lA, rd_lR, wr_lR, ite_iI, max_iI, min_iI, rem_iI, div_iI, ite_true, ite_false, if_true, if_false, ite_self, and_self, and_true, true_and, and_false, false_and, or_self, or_true, true_or, or_false, false_or, not_true_eq_false, not_false_eq_true, ha1, hb1]
      · simp (disch := omega) only [↓bd_e, ↓jn_e, ↓opt_bind, ↓reduceIte, iLeT, iLeF, iLtT, iLtF, iEqT, iEqF, il_0, il_1, il_2, il_3, il_4, il_5, il_6, il_7, il_8, il_9, il_10, il_11, il_12, il_13, il_14, il_15, il_16, il_18, il_20, il_24, il_32, il_35, il_40, il_44, il_47, il_48, il_56, il_57, il_58, il_59, il_63, il_64, il_72, il_100, il_120, il_126, il_127, il_160, il_192, il_255, il_349, il_1748, il_6992, iI_add, iI_sub, iI_mul, iI_neg, iI_le, iI_lt, iI_eq, rd_lA, wr_lA, rd_lR, wr_lR, ite_iI, max_iI, min_iI, rem_iI, div_iI, ite_true, ite_false, if_true, if_false, ite_self, and_self, and_true, true_and, and_false, false_and, or_self, or_true, true_or, or_false, false_or, not_true_eq_false, not_false_eq_true, ha2, hb2]
  · rw [if_neg hw1] at ha1 ha2
    refine ⟨iI (-1), V, c, S, d, l, p, H0, H1, H2, H3, H4, P, ?_, ?_, h, Or.inl ⟨rfl, rfl⟩⟩
    · simp (disch := omega) only [↓bd_e, ↓jn_e, ↓opt_bind, ↓reduceIte, iLeT, iLeF, iLtT, iLtF, iEqT, iEqF, il_0, il_1, il_2, il_3, il_4, il_5, il_6, il_7, il_8, il_9, il_10, il_11, il_12, il_13, il_14, il_15, il_16, il_18, il_20, il_24, il_32, il_35, il_40, il_44, il_47, il_48, il_56, il_57, il_58, il_59, il_63, il_64, il_72, il_100, il_120, il_126, il_127, il_160, il_192, il_255, il_349, il_1748, il_6992, iI_add, iI_sub, iI_mul, iI_neg, iI_le, iI_lt, iI_eq, rd_lA, wr_lA, rd_lR, wr_lR, ite_iI, max_iI, min_iI, rem_iI, div_iI, ite_true, ite_false, if_true, if_false, ite_self, and_self, and_true, true_and, and_false, false_and, or_self, or_true, true_or, or_false, false_or, not_true_eq_false, not_false_eq_true, ha1]
    · simp (disch := omega) only [↓bd_e, ↓jn_e, ↓opt_bind, ↓reduceIte, iLeT, iLeF, iLtT, iLtF, iEqT, iEqF, il_0, il_1, il_2, il_3, il_4, il_5, il_6, il_7, il_8, il_9, il_10, il_11, il_12, il_13, il_14, il_15, il_16, il_18, il_20, il_24, il_32, il_35, il_40, il_44, il_47, il_48, il_56, il_57, il_58, il_59, il_63, il_64, il_72, il_100, il_120, il_126, il_127, il_160, il_192, il_255, il_349, il_1748, il_6992, iI_add, iI_sub, iI_mul, iI_neg, iI_le, iI_lt, iI_eq, rd_lA, wr_lA, rd_lR, wr_lR, ite_iI, max_iI, min_iI, rem_iI, div_iI, ite_true, ite_false, if_true, if_false, ite_self, and_self, and_true, true_and, and_false, false_and, or_self, or_true, true_or, or_false, false_or, not_true_eq_false, not_false_eq_true, ha2]
theorem x_setMargins {V : Int → Int} {c : Nat → Int → Int} {S : Nat → Nat → Int32} {d : Nat → Int → Int} {l p : Int} {H0 H1 H2 H3 H4 : Nat → Nat → Int32} {P : Int → Int} (h : stI V c S d l p (hF H0 H1 H2 H3 H4) P) (w : Int) (hw : -2147483648 ≤ w ∧ w < 2147483648) (z : Int) (hz : -2147483648 ≤ z ∧ z < 2147483648) (u : Int) (hu : -2147483648 ≤ u ∧ u < 2147483648) :
    ∃ a V' c' S' d' l' p' K0 K1 K2 K3 K4 P', f_X10_setMargins S (lA (d 0)) (lA (d 1)) (lA (d 2)) (lA (d 3)) (lA (d 4)) (lA (d 5)) (iI l) (iI p) H0 H1 H2 H3 H4 (iI w) (iI z) (iI u) = some (a, S', lA (d' 0), lA (d' 1), lA (d' 2), lA (d' 3), lA (d' 4), lA (d' 5), iI l', iI p', K0, K1, K2, K3, K4) ∧
      f_X11_setMargins (iI p) (lA V) (lA P) (iI w) (iI z) (iI u) = some (a, iI p', lA V', lA P') ∧ stI V' c' S' d' l' p' (hF K0 K1 K2 K3 K4) P' ∧ stU V V' c c' := by
  obtain ⟨⟨g0, g1, g2, g3, g4⟩, gr, gc, gd, gh⟩ := id h
  have e53 : S 5 3 = iI (V 4) := gr.2.1 3 (by omega)
  have e54 : S 5 4 = iI (V 5) := gr.2.1 4 (by omega)
  have e55 : S 5 5 = iI (V 6) := gr.2.1 5 (by omega)
  have ha1 := within_iI (a := w) (b := 0) (c := 3) (by omega) (by omega) (by omega) (by omega) (by omega) (by omega)
  have hb1 := within_iI (a := z) (b := 0) (c := 3) (by omega) (by omega) (by omega) (by omega) (by omega) (by omega)
  have hc1 := within_iI (a := u) (b := 0) (c := 2) (by omega) (by omega) (by omega) (by omega) (by omega) (by omega)
  have ha2 := in_iI (a := w) (b := 0) (c := 3) (by omega) (by omega) (by omega) (by omega) (by omega) (by omega)
  have hb2 := in_iI (a := z) (b := 0) (c := 3) (by omega) (by omega) (by omega) (by omega) (by omega) (by omega)
  have hc2 := in_iI (a := u) (b := 0) (c := 2) (by omega) (by omega) (by omega) (by omega) (by omega) (by omega)
  unfold f_X10_setMargins f_X11_setMargins
  by_cases hw1 : 0 ≤ w ∧ w ≤ 3
  · rw [if_pos hw1] at ha1 ha2
    by_cases hz1 : 0 ≤ z ∧ z ≤ 3
    · rw [if_pos hz1] at hb1 hb2
      by_cases hu1 : 0 ≤ u ∧ u ≤ 2
      · rw [if_pos hu1] at hc1 hc2
        obtain ⟨K0, K1, K2, K3, K4, P', S3, c', d', e1, e2, e3, e4⟩ := x_set h (V2 := uI (uI (uI V 4 w) 5 z) 6 u) (S2 := updC S 5 (upd (upd (upd (S 5) 3 (iI w)) 4 (iI z)) 5 (iI u))) (vOut_uI (vOut_uI (vOut_uI g0 (by omega)) (by omega)) (by omega)) (by unfold vSet at g1 ⊢; simp (disch := omega) only [↓bd_e, ↓jn_e, ↓opt_bind, ↓reduceIte, iLeT, iLeF, iLtT, iLtF, iEqT, iEqF, il_0, il_1, il_2, il_3, il_4, il_5, il_6, il_7, il_8, il_9, il_10, il_11, il_12, il_13, il_14, il_15, il_16, il_18, il_20, il_24, il_32, il_35, il_40, il_44, il_47, il_48, il_56, il_57, il_58, il_59, il_63, il_64, il_72, il_100, il_120, il_126, il_127, il_160, il_192, il_255, il_349, il_1748, il_6992, iI_add, iI_sub, iI_mul, iI_neg, iI_le, iI_lt, iI_eq, rd_lA, wr_lA, rd_lR, wr_lR, ite_iI, max_iI, min_iI, rem_iI, div_iI, ite_true, ite_false, if_true, if_false, ite_self, and_self, and_true, true_and, and_false, false_and, or_self, or_true, true_or, or_false, false_or, not_true_eq_false, not_false_eq_true, uI_at]) (vImg_uI (vImg_uI (vImg_uI g2 (by omega)) (by omega)) (by omega)) (vPgr_uI (vPgr_uI (vPgr_uI g3.2.2 (by omega)) (by omega)) (by omega))
          (sR2_set (vImg_uI (vImg_uI g2 (by omega)) (by omega)) (k := 5) (by omega) u (F := upd (upd (S 5) 3 (iI w)) 4 (iI z)) (sR2_set (vImg_uI g2 (by omega)) (k := 4) (by omega) z (F := upd (S 5) 3 (iI w)) (sR2_set1 g2 (k := 3) (by omega) rfl w (sR_2 gr))))
        have hV : uI (uI (vE (uI V 4 w)) 5 z) 6 u = vE (uI (uI (uI V 4 w) 5 z) 6 u) := by rw [vE_uI (by omega), vE_uI (by omega)]
        refine ⟨iI (100 * V 4 + 10 * V 5 + V 6), _, c', _, d', _, _, K0, K1, K2, K3, K4, P', ?_, ?_, e4 (S 6), Or.inr rfl⟩
        · simp (disch := omega) only [↓bd_e, ↓jn_e, ↓opt_bind, ↓reduceIte, iLeT, iLeF, iLtT, iLtF, iEqT, iEqF, il_0, il_1, il_2, il_3, il_4, il_5, il_6, il_7, il_8, il_9, il_10, il_11, il_12, il_13, il_14, il_15, il_16, il_18, il_20, il_24, il_32, il_35, il_40, il_44, il_47, il_48, il_56, il_57, il_58, il_59, il_63, il_64, il_72, il_100, il_120, il_126, il_127, il_160, il_192, il_255, il_349, il_1748, il_6992, iI_add, iI_sub, iI_mul, iI_neg, iI_le, iI_lt, iI_eq, rd_lA, wr_lA, rd_lR, wr_lR, ite_iI, max_iI, min_iI, rem_iI, div_iI, ite_true, ite_false, if_true, if_false, ite_self, and_self, and_true, true_and, and_false, false_and, or_self, or_true, true_or, or_false, false_or, not_true_eq_false, not_false_eq_true, ha1, hb1, hc1, e1, e3, e53, e54, e55]
        · have em := m_sets (V := V) (P := P) (k := 4) (x := w) (by omega) e2
          simp (disch := omega) only [↓bd_e, ↓jn_e, ↓opt_bind, ↓reduceIte, iLeT, iLeF, iLtT, iLtF, iEqT, iEqF, il_0, il_1, il_2, il_3, il_4, il_5, il_6, il_7, il_8, il_9, il_10, il_11, il_12, il_13, il_14, il_15, il_16, il_18, il_20, il_24, il_32, il_35, il_40, il_44, il_47, il_48, il_56, il_57, il_58, il_59, il_63, il_64, il_72, il_100, il_120, il_126, il_127, il_160, il_192, il_255, il_349, il_1748, il_6992, iI_add, iI_sub, iI_mul, iI_neg, iI_le, iI_lt, iI_eq, rd_lA, wr_lA, rd_lR, wr_lR, ite_iI, max_iI, min_iI, rem_iI, div_iI, ite_true, ite_false, if_true, if_false, ite_self, and_self, and_true, true_and, and_false, false_and, or_self, or_true, true_or, or_false, false_or, not_true_eq_false, not_false_eq_true, ha2, hb2, hc2, em, hV]
          rw [show 10 * V 5 + V 6 + 100 * V 4 = 100 * V 4 + 10 * V 5 + V 6 by omega]
      · rw [if_neg hu1] at hc1 hc2
        refine ⟨iI (-1), V, c, S, d, l, p, H0, H1, H2, H3, H4, P, ?_, ?_, h, Or.inl ⟨rfl, rfl⟩⟩
        · simp (disch := omega) only [↓bd_e, ↓jn_e, ↓opt_bind, ↓reduceIte, iLeT, iLeF, iLtT, iLtF, iEqT, iEqF, il_0, il_1, il_2, il_3, il_4, il_5, il_6, il_7, il_8, il_9, il_10, il_11, il_12, il_13, il_14, il_15, il_16, il_18, il_20, il_24, il_32, il_35, il_40, il_44, il_47, il_48, il_56, il_57, il_58, il_59, il_63, il_64, il_72, il_100, il_120, il_126, il_127, il_160, il_192, il_255, il_349, il_1748, il_6992, iI_add, iI_sub, iI_mul, iI_neg, iI_le, iI_lt, iI_eq, rd_lA, wr_lA, rd_lR, wr_lR, ite_iI, max_iI, min_iI, rem_iI, div_iI, ite_true, ite_false, if_true, if_false, ite_self, and_self, and_true, true_and, and_false, false_and, or_self, or_true, true_or, or_false, false_or, not_true_eq_false, not_false_eq_true, ha1, hb1, hc1]
        · simp (disch := omega) only [↓bd_e, ↓jn_e, ↓opt_bind, ↓reduceIte, iLeT, iLeF, iLtT, iLtF, iEqT, iEqF, il_0, il_1, il_2, il_3, il_4, il_5, il_6, il_7, il_8, il_9, il_10, il_11, il_12, il_13, il_14, il_15, il_16, il_18, il_20, il_24, il_32, il_35, il_40, il_44, il_47, il_48, il_56, il_57, il_58, il_59, il_63, il_64, il_72, il_100, il_120, il_126, il_127, il_160, il_192, il_255, il_349, il_1748, il_6992, iI_add, iI_sub, iI_mul, iI_neg, iI_le, iI_lt, iI_eq, rd_lA, wr_lA, rd_lR, wr_lR, ite_iI, max_iI, min_iI, rem_iI, div_iI, ite_true, ite_false, if_true, if_false, ite_self, and_self, and_true, true_and, and_false, false_and, or_self, or_true, true_or, or_false, false_or, not_true_eq_false, not_false_eq_true, ha2, hb2, hc2]
    · rw [if_neg hz1] at hb1 hb2
      refine ⟨iI (-1), V, c, S, d, l, p, H0, H1, H2, H3, H4, P, ?_, ?_, h, Or.inl ⟨rfl, rfl⟩⟩
      · simp (disch := omega) only [↓bd_e, ↓jn_e, ↓opt_bind, ↓reduceIte, iLeT, iLeF, iLtT, iLtF, iEqT, iEqF, il_0, il_1, il_2, il_3, il_4, il_5, il_6, il_7, il_8, il_9, il_10, il_11, il_12, il_13, il_14, il_15, il_16, il_18, il_20, il_24, il_32, il_35, il_40, il_44, il_47, il_48, il_56, il_57, il_58, il_59, il_63, il_64, il_72, il_100, il_120, il_126, il_127, il_160, il_192, il_255, il_349, il_1748, il_6992, iI_add, iI_sub, iI_mul, iI_neg, iI_le, iI_lt, iI_eq, rd_lA, wr_lA, rd_lR, wr_lR, ite_iI, max_iI, min_iI, rem_iI, div_iI, ite_true, ite_false, if_true, if_false, ite_self, and_self, and_true, true_and, and_false, false_and, or_self, or_true, true_or, or_false, false_or, not_true_eq_false, not_false_eq_true, ha1, hb1]
      · simp (disch := omega) only [↓bd_e, ↓jn_e, ↓opt_bind, ↓reduceIte, iLeT, iLeF, iLtT, iLtF, iEqT, iEqF, il_0, il_1, il_2, il_3, il_4, il_5, il_6, il_7, il_8, il_9, il_10, il_11, il_12, il_13, il_14, il_15, il_16, il_18, il_20, il_24, il_32, il_35, il_40, il_44, il_47, il_48, il_56, il_57, il_58, il_59, il_63, il_64, il_72, il_100, il_120, il_126, il_127, il_160, il_192, il_255, il_349, il_1748, il_6992, iI_add, iI_sub, iI_mul, iI_neg, iI_le, iI_lt, iI_eq, rd_lA, wr_lA, rd_lR, wr_lR, ite_iI, max_iI, min_iI, rem_iI, div_iI, ite_true, ite_false, if_true, if_false, ite_self, and_self, and_true, true_and, and_false, false_and, or_self, or_true, true_or, or_false, false_or, not_true_eq_false, not_false_eq_true, ha2, hb2]
  · rw [if_neg hw1] at ha1 ha2
    refine ⟨iI (-1), V, c, S, d, l, p, H0, H1, H2, H3, H4, P, ?_, ?_, h, Or.inl ⟨rfl, rfl⟩⟩
    · simp (disch := omega) only [↓bd_e, ↓jn_e, ↓opt_bind, ↓reduceIte, iLeT, iLeF, iLtT, iLtF, iEqT, iEqF, il_0, il_1, il_2, il_3, il_4, il_5, il_6, il_7, il_8, il_9, il_10, il_11, il_12, il_13, il_14, il_15, il_16, il_18, il_20, il_24, il_32, il_35, il_40, il_44, il_47, il_48, il_56, il_57, il_58, il_59, il_63, il_64, il_72, il_100, il_120, il_126, il_127, il_160, il_192, il_255, il_349, il_1748, il_6992, iI_add, iI_sub, iI_mul, iI_neg, iI_le, iI_lt, iI_eq, rd_lA, wr_lA, rd_lR, wr_lR, ite_iI, max_iI, min_iI, rem_iI, div_iI, ite_true, ite_false, if_true, if_false, ite_self, and_self, and_true, true_and, and_false, false_and, or_self, or_true, true_or, or_false, false_or, not_true_eq_false, not_false_eq_true, ha1]
    · simp (disch := omega) only [↓bd_e, ↓jn_e, ↓opt_bind, ↓reduceIte, iLeT, iLeF, iLtT, iLtF, iEqT, iEqF, il_0, il_1, il_2, il_3, il_4, il_5, il_6, il_7, il_8, il_9, il_10, il_11, il_12, il_13, il_14, il_15, il_16, il_18, il_20, il_24, il_32, il_35, il_40, il_44, il_47, il_48, il_56, il_57, il_58, il_59, il_63, il_64, il_72, il_100, il_120, il_126, il_127, il_160, il_192, il_255, il_349, il_1748, il_6992, iI_add, iI_sub, iI_mul, iI_neg, iI_le, iI_lt, iI_eq, rd_lA, wr_lA, rd_lR, wr_lR, ite_iI, max_iI, min_iI, rem_iI, div_iI, ite_true, ite_false, if_true, if_false, ite_self, and_self, and_true, true_and, and_false, false_and, or_self, or_true, true_or, or_false, false_or, not_true_eq_false, not_false_eq_true, ha2]
def vD (V : Int → Int) (s : Int) : Int → Int := fun j => if j = 0 then V 0 - 1 else if 20 + 72 * s ≤ j ∧ j < 20 + 72 * (V 0 - 1) then V (j + 72) else V j
theorem vD_lo {V : Int → Int} {s j : Int} (h : 1 ≤ j ∧ j < 20) (hs : 0 ≤ s) : vD V s j = V j := by
  unfold vD
  rw [if_neg (by omega), if_neg (by omega)]
theorem vD_at {V : Int → Int} {s j k : Int} (hs : 0 ≤ s) (hj : 0 ≤ j) (hk : 0 ≤ k ∧ k < 72) (hj1 : j < V 0 - 1) : vD V s (20 + 72 * j + k) = V (20 + 72 * (if j < s then j else j + 1) + k) := by
  unfold vD
  rw [if_neg (by omega)]
  by_cases e : j < s
  · rw [if_neg (by omega), if_pos e]
  · rw [if_pos (by omega), if_neg e]
    congr 1
    omega
theorem cpy_shift {A : Int → Int} {s n : Int} (hs : 0 ≤ s) (hn : s < n) (hn24 : n ≤ 24) {β : Type} (k : (Nat → Int32) → Option β) : g_cpy (lA A) 24 (iI (s + 1)) (lA A) 24 (iI s) (iI (n - s - 1)) k = k (lA (fun j => if s ≤ j ∧ j < n - 1 then A (j + 1) else A j)) := by
  rw [cpy_lA A A k (by omega) (by omega) (by omega) (by omega) (by omega) (by omega) (by omega)]
  congr 1
  refine lA_eq (fun j j0 => ?_)
  by_cases e : s ≤ j ∧ j < n - 1
  · rw [if_pos (by omega), if_pos e]
    congr 1
    omega
  · rw [if_neg (by omega), if_neg e]
theorem cpy_shiftR {A : Int → Int32} {s n : Int} (hs : 0 ≤ s) (hn : s < n) (hn24 : n ≤ 24) {β : Type} (k : (Nat → Int32) → Option β) : g_cpy (lR A) 192 (iI (s * 8 + 8)) (lR A) 192 (iI (s * 8)) (iI ((n - s - 1) * 8)) k = k (lR (fun j => if s * 8 ≤ j ∧ j < (n - 1) * 8 then A (j + 8) else A j)) := by
  unfold g_cpy
  rw [if_neg (by
    rw [iI_cl (by omega) (by omega), iI_cl (by omega) (by omega), iI_cl (by omega) (by omega), iI_0, iI_lt (by omega) (by omega) (by omega) (by omega), iI_lt (by omega) (by omega) (by omega) (by omega), iI_lt (by omega) (by omega) (by omega) (by omega)]
    omega), iI_cl (by omega) (by omega), iI_cl (by omega) (by omega), iI_cl (by omega) (by omega)]
  congr 1
  funext j
  unfold va_cpy
  show (if (s * 8).toNat ≤ j ∧ j < (s * 8).toNat + ((n - s - 1) * 8).toNat then A (((s * 8 + 8).toNat + (j - (s * 8).toNat) : Nat) : Int) else A j) = (if s * 8 ≤ (j : Int) ∧ (j : Int) < (n - 1) * 8 then A ((j : Int) + 8) else A j)
  by_cases e : s * 8 ≤ (j : Int) ∧ (j : Int) < (n - 1) * 8
  · rw [if_pos (by omega), if_pos e]
    congr 1
    omega
  · rw [if_neg (by omega), if_neg e]
theorem x_drop {V : Int → Int} {c : Nat → Int → Int} {S : Nat → Nat → Int32} {d : Nat → Int → Int} {l p : Int} {H0 H1 H2 H3 H4 : Nat → Nat → Int32} {P : Int → Int} (h : stI V c S d l p (hF H0 H1 H2 H3 H4) P) (s : Int) (hs : -2147483648 ≤ s ∧ s < 2147483648) :
    ∃ a V' c' S' d' l' p' K0 K1 K2 K3 K4 P', f_X10_drop S (lA (d 0)) (lA (d 1)) (lA (d 2)) (lA (d 3)) (lA (d 4)) (lA (d 5)) (iI l) (iI p) H0 H1 H2 H3 H4 (iI s) = some (a, S', lA (d' 0), lA (d' 1), lA (d' 2), lA (d' 3), lA (d' 4), lA (d' 5), iI l', iI p', K0, K1, K2, K3, K4) ∧
      f_X11_drop (iI p) (lA V) (lA P) (iI s) = some (a, iI p', lA V', lA P') ∧ stI V' c' S' d' l' p' (hF K0 K1 K2 K3 K4) P' ∧ stU V V' c c' := by
  obtain ⟨⟨g0, g1, g2, g3, g4⟩, gr, gc, gd, gh⟩ := id h
  have hh := c_has (n := V 0) (s := s) g2.1 hs
  have hm := m_isSprite (V := V) (s := s) g2.1 hs
  have hn := g2.1
  have e0 := gr.1.1
  unfold f_X10_drop f_X11_drop
  by_cases h1 : 0 ≤ s ∧ s < V 0
  · rw [if_pos h1] at hh hm
    have hat : ∀ j k, 0 ≤ j → 0 ≤ k → k < 72 → j < V 0 - 1 → vD V s (20 + 72 * j + k) = V (20 + 72 * (if j < s then j else j + 1) + k) := fun j k a b c' d' => vD_at h1.1 a ⟨b, c'⟩ d'
    have hlo : ∀ j, 1 ≤ j → j < 20 → vD V s j = V j := fun j a b => vD_lo ⟨a, b⟩ h1.1
    have hz : vD V s 0 = V 0 - 1 := rfl
    have hpx : ∀ j x y, 0 ≤ j → j < V 0 - 1 → 0 ≤ x → x < 8 → 0 ≤ y → y < 8 → vD V s (20 + 72 * j + 8 + 8 * y + x) = V (20 + 72 * ((if j < s then j else j + 1)) + 8 + 8 * y + x) := by
      intro j x y j0 j1 x0 x1 y0 y1
      have := hat j (8 + 8 * y + x) j0 (by omega) (by omega) j1
      rw [show 20 + 72 * j + 8 + 8 * y + x = 20 + 72 * j + (8 + 8 * y + x) by omega, this]
      congr 1
      omega
    have ho : vOut (vD V s) := fun k hk => by
      unfold vD
      rw [if_neg (by omega), if_neg (by omega)]
      exact g0 k hk
    have hs2 : vSet (vD V s) := by
      unfold vSet at g1 ⊢
      rw [hlo 1 (by omega) (by omega), hlo 2 (by omega) (by omega), hlo 3 (by omega) (by omega), hlo 4 (by omega) (by omega), hlo 5 (by omega) (by omega), hlo 6 (by omega) (by omega), hlo 7 (by omega) (by omega), hlo 8 (by omega) (by omega), hlo 9 (by omega) (by omega), hlo 10 (by omega) (by omega), hlo 11 (by omega) (by omega), hlo 12 (by omega) (by omega)]
      exact g1
    have hi2 : vImg (vD V s) := by
      refine ⟨by rw [hz]; omega, fun j j0 j1 => ?_, fun j x y j0 j1 x0 x1 y0 y1 => ?_⟩
      · rw [hz] at j1
        rw [hat j 0 j0 (by omega) (by omega) j1, hat j 1 j0 (by omega) (by omega) j1, hat j 2 j0 (by omega) (by omega) j1]
        exact g2.2.1 _ (by split <;> omega) (by split <;> omega)
      · rw [hz] at j1
        rw [hpx j x y j0 j1 x0 x1 y0 y1]
        exact g2.2.2 _ x y (by split <;> omega) (by split <;> omega) x0 x1 y0 y1
    have hg2 : vPgr (vD V s) := fun q q0 q1 => by rw [hlo _ (by omega) (by omega)]; exact g3.2.2 q q0 q1
    have e1 : S 1 = lA (sA S 1) := sA_lA S 1
    have e2 : S 2 = lA (sA S 2) := sA_lA S 2
    have e3 : S 3 = lA (sA S 3) := sA_lA S 3
    have e4 : S 4 = lR (sW S) := rfl
    have erem : f_X6_remove (S 0 0) (S 1) (S 2) (S 3) (S 4) (iI s) = some (iI (V 0 - 1), lA (fun j => if s ≤ j ∧ j < V 0 - 1 then sA S 1 (j + 1) else sA S 1 j), lA (fun j => if s ≤ j ∧ j < V 0 - 1 then sA S 2 (j + 1) else sA S 2 j), lA (fun j => if s ≤ j ∧ j < V 0 - 1 then sA S 3 (j + 1) else sA S 3 j), lR (fun j => if s * 8 ≤ j ∧ j < (V 0 - 1) * 8 then sW S (j + 8) else sW S j)) := by
      rw [e0, e1, e2, e3, e4]
      unfold f_X6_remove
      simp (disch := omega) only [↓bd_e, ↓jn_e, ↓opt_bind, ↓reduceIte, iLeT, iLeF, iLtT, iLtF, iEqT, iEqF, il_0, il_1, il_2, il_3, il_4, il_5, il_6, il_7, il_8, il_9, il_10, il_11, il_12, il_13, il_14, il_15, il_16, il_18, il_20, il_24, il_32, il_35, il_40, il_44, il_47, il_48, il_56, il_57, il_58, il_59, il_63, il_64, il_72, il_100, il_120, il_126, il_127, il_160, il_192, il_255, il_349, il_1748, il_6992, iI_add, iI_sub, iI_mul, iI_neg, iI_le, iI_lt, iI_eq, rd_lA, wr_lA, rd_lR, wr_lR, ite_iI, max_iI, min_iI, rem_iI, div_iI, ite_true, ite_false, if_true, if_false, ite_self, and_self, and_true, true_and, and_false, false_and, or_self, or_true, true_or, or_false, false_or, not_true_eq_false, not_false_eq_true, hh, cpy_shift h1.1 h1.2 hn.2, cpy_shiftR h1.1 h1.2 hn.2]
    generalize hA1 : (fun j => if s ≤ j ∧ j < V 0 - 1 then sA S 1 (j + 1) else sA S 1 j) = A1 at erem
    generalize hA2 : (fun j => if s ≤ j ∧ j < V 0 - 1 then sA S 2 (j + 1) else sA S 2 j) = A2 at erem
    generalize hA3 : (fun j => if s ≤ j ∧ j < V 0 - 1 then sA S 3 (j + 1) else sA S 3 j) = A3 at erem
    generalize hA4 : (fun j => if s * 8 ≤ j ∧ j < (V 0 - 1) * 8 then sW S (j + 8) else sW S j) = A4 at erem
    have h2 : sR2 (vD V s) (updC (updC (updC (updC (updC S 0 (upd (S 0) 0 (iI (V 0 - 1)))) 1 (lA A1)) 2 (lA A2)) 3 (lA A3)) 4 (lR A4)) := by
      obtain ⟨a1, a2, a3, a4, a5⟩ := sR_2 gr
      refine ⟨rfl, fun k hk => by rw [hlo _ (by omega) (by omega)]; exact a2 k hk, fun j j0 j1 => ?_, fun q q0 q1 => by rw [hlo _ (by omega) (by omega)]; exact a4 q q0 q1, a5⟩
      rw [hz] at j1
      have hj' : 0 ≤ (if j < s then j else j + 1) ∧ (if j < s then j else j + 1) < V 0 := by split <;> omega
      obtain ⟨b1, b2, b3, b4⟩ := a3 _ hj'.1 hj'.2
      have hij := g2.2.1 _ hj'.1 hj'.2
      rw [hat j 0 j0 (by omega) (by omega) j1, hat j 1 j0 (by omega) (by omega) j1, hat j 2 j0 (by omega) (by omega) j1]
      have hk : ∀ (k : Nat) (B : Int → Int), (fun j => if s ≤ j ∧ j < V 0 - 1 then sA S k (j + 1) else sA S k j) = B → ∀ w, sA S k (if j < s then j else j + 1) = w → -2147483648 ≤ w → w < 2147483648 → (lA B j.toNat).toInt = w := by
        intro k B hB w hw w0 w1
        rw [lA_at _ j0, ← hB]
        dsimp only
        by_cases e : j < s
        · rw [if_pos e] at hw
          rw [if_neg (by omega), hw, iI_toInt w0 w1]
        · rw [if_neg e] at hw
          rw [if_pos (by omega), hw, iI_toInt w0 w1]
      refine ⟨hk 1 A1 hA1 _ b1 (by omega) (by omega), hk 2 A2 hA2 _ b2 (by omega) (by omega), hk 3 A3 hA3 _ b3 (by omega) (by omega), fun x y x0 x1 y0 y1 => ?_⟩
      · rw [hat j 1 j0 (by omega) (by omega) j1] at y1
        rw [hat j 0 j0 (by omega) (by omega) j1, hpx j x y j0 j1 x0 x1 y0 (by omega)]
        have b5 := b4 x y x0 x1 y0 y1
        rw [← b5]
        show nib (A4 ((j * 8 + y).toNat : Int)) x = _
        rw [Int.toNat_of_nonneg (by omega), ← hA4]
        dsimp only
        by_cases e : j < s
        · rw [if_pos e, if_neg (by omega)]
        · rw [if_neg e, if_pos (by omega)]
          congr 2
          omega
    obtain ⟨K0, K1, K2, K3, K4, P', S3, c', d', q1, q2, q3, q4⟩ := x_set h ho hs2 hi2 hg2 h2
    refine ⟨iI (V 0 - 1), vE (vD V s), c', _, d', _, _, K0, K1, K2, K3, K4, P', ?_, ?_, q4 (S 6), Or.inr rfl⟩
    · have hh' : f_X6_has (S 0 0) (iI s) = iI 1 := by rw [e0]; exact hh
      simp (disch := omega) only [↓bd_e, ↓jn_e, ↓opt_bind, ↓reduceIte, iLeT, iLeF, iLtT, iLtF, iEqT, iEqF, il_0, il_1, il_2, il_3, il_4, il_5, il_6, il_7, il_8, il_9, il_10, il_11, il_12, il_13, il_14, il_15, il_16, il_18, il_20, il_24, il_32, il_35, il_40, il_44, il_47, il_48, il_56, il_57, il_58, il_59, il_63, il_64, il_72, il_100, il_120, il_126, il_127, il_160, il_192, il_255, il_349, il_1748, il_6992, iI_add, iI_sub, iI_mul, iI_neg, iI_le, iI_lt, iI_eq, rd_lA, wr_lA, rd_lR, wr_lR, ite_iI, max_iI, min_iI, rem_iI, div_iI, ite_true, ite_false, if_true, if_false, ite_self, and_self, and_true, true_and, and_false, false_and, or_self, or_true, true_or, or_false, false_or, not_true_eq_false, not_false_eq_true, hh', q1, erem, q3]
    · obtain ⟨fu, hfu, hfu2⟩ := fuel_ex; rw [hfu]
      simp (disch := omega) only [↓bd_e, ↓jn_e, ↓opt_bind, ↓reduceIte, iLeT, iLeF, iLtT, iLtF, iEqT, iEqF, il_0, il_1, il_2, il_3, il_4, il_5, il_6, il_7, il_8, il_9, il_10, il_11, il_12, il_13, il_14, il_15, il_16, il_18, il_20, il_24, il_32, il_35, il_40, il_44, il_47, il_48, il_56, il_57, il_58, il_59, il_63, il_64, il_72, il_100, il_120, il_126, il_127, il_160, il_192, il_255, il_349, il_1748, il_6992, iI_add, iI_sub, iI_mul, iI_neg, iI_le, iI_lt, iI_eq, rd_lA, wr_lA, rd_lR, wr_lR, ite_iI, max_iI, min_iI, rem_iI, div_iI, ite_true, ite_false, if_true, if_false, ite_self, and_self, and_true, true_and, and_false, false_and, or_self, or_true, true_or, or_false, false_or, not_true_eq_false, not_false_eq_true, hm, q2, f_X11_at]
      refine lp (fun n x (A : Int → Int) => f_X11_drop_L30 _ n (iI x) (lA A)) (fun r => r = some (iI (V 0 - 1), iI (min (p + 1) 5), lA (vE (vD V s)), lA P')) (20 + 72 * (V 0 - 1)) (fun x A => 20 + 72 * s ≤ x ∧ ∀ j, A j = if j = 0 then V 0 - 1 else if 20 + 72 * s ≤ j ∧ j < x then V (j + 72) else V j) ?_ ?_ fu (20 + 72 * s + 0) (uI V 0 (V 0 - 1)) (by omega) (by omega) ⟨by omega, fun j => ?_⟩
      · rintro n A ⟨-, hA⟩
        have eA : A = vD V s := by
          funext j
          rw [hA j]
          rfl
        subst eA
        have hz2 : vE (vD V s) 0 = V 0 - 1 := vE_ne (by omega) (by omega)
        unfold f_X11_drop_L30
        simp (disch := omega) only [↓bd_e, ↓jn_e, ↓opt_bind, ↓reduceIte, iLeT, iLeF, iLtT, iLtF, iEqT, iEqF, il_0, il_1, il_2, il_3, il_4, il_5, il_6, il_7, il_8, il_9, il_10, il_11, il_12, il_13, il_14, il_15, il_16, il_18, il_20, il_24, il_32, il_35, il_40, il_44, il_47, il_48, il_56, il_57, il_58, il_59, il_63, il_64, il_72, il_100, il_120, il_126, il_127, il_160, il_192, il_255, il_349, il_1748, il_6992, iI_add, iI_sub, iI_mul, iI_neg, iI_le, iI_lt, iI_eq, rd_lA, wr_lA, rd_lR, wr_lR, ite_iI, max_iI, min_iI, rem_iI, div_iI, ite_true, ite_false, if_true, if_false, ite_self, and_self, and_true, true_and, and_false, false_and, or_self, or_true, true_or, or_false, false_or, not_true_eq_false, not_false_eq_true, hz, f_X11_at, m_empties, hz2]
      · rintro n x A hx ⟨hx0, hA⟩ ih
        have hA0 : A 0 = V 0 - 1 := by rw [hA 0, if_pos rfl]
        unfold f_X11_drop_L30
        simp (disch := omega) only [↓bd_e, ↓jn_e, ↓opt_bind, ↓reduceIte, iLeT, iLeF, iLtT, iLtF, iEqT, iEqF, il_0, il_1, il_2, il_3, il_4, il_5, il_6, il_7, il_8, il_9, il_10, il_11, il_12, il_13, il_14, il_15, il_16, il_18, il_20, il_24, il_32, il_35, il_40, il_44, il_47, il_48, il_56, il_57, il_58, il_59, il_63, il_64, il_72, il_100, il_120, il_126, il_127, il_160, il_192, il_255, il_349, il_1748, il_6992, iI_add, iI_sub, iI_mul, iI_neg, iI_le, iI_lt, iI_eq, rd_lA, wr_lA, rd_lR, wr_lR, ite_iI, max_iI, min_iI, rem_iI, div_iI, ite_true, ite_false, if_true, if_false, ite_self, and_self, and_true, true_and, and_false, false_and, or_self, or_true, true_or, or_false, false_or, not_true_eq_false, not_false_eq_true, hA0, f_X11_at]
        refine ih _ ⟨by omega, fun j => ?_⟩
        rw [uI_at]
        by_cases e : j = x
        · rw [if_pos e, hA, if_neg (by omega), if_neg (by omega), if_neg (by omega), if_pos (by omega), e]
        · rw [if_neg e, hA j]
          by_cases e2 : j = 0
          · rw [if_pos e2, if_pos e2]
          · rw [if_neg e2, if_neg e2]
            by_cases e3 : 20 + 72 * s ≤ j ∧ j < x
            · rw [if_pos e3, if_pos (by omega)]
            · rw [if_neg e3, if_neg (by omega)]
      · rw [uI_at]
        by_cases e : j = 0
        · rw [if_pos e, if_pos e]
        · rw [if_neg e, if_neg e, if_neg (by omega)]
  · rw [if_neg h1] at hh hm
    refine ⟨iI (-1), V, c, S, d, l, p, H0, H1, H2, H3, H4, P, ?_, ?_, h, Or.inl ⟨rfl, rfl⟩⟩
    · rw [e0]
      simp (disch := omega) only [↓bd_e, ↓jn_e, ↓opt_bind, ↓reduceIte, iLeT, iLeF, iLtT, iLtF, iEqT, iEqF, il_0, il_1, il_2, il_3, il_4, il_5, il_6, il_7, il_8, il_9, il_10, il_11, il_12, il_13, il_14, il_15, il_16, il_18, il_20, il_24, il_32, il_35, il_40, il_44, il_47, il_48, il_56, il_57, il_58, il_59, il_63, il_64, il_72, il_100, il_120, il_126, il_127, il_160, il_192, il_255, il_349, il_1748, il_6992, iI_add, iI_sub, iI_mul, iI_neg, iI_le, iI_lt, iI_eq, rd_lA, wr_lA, rd_lR, wr_lR, ite_iI, max_iI, min_iI, rem_iI, div_iI, ite_true, ite_false, if_true, if_false, ite_self, and_self, and_true, true_and, and_false, false_and, or_self, or_true, true_or, or_false, false_or, not_true_eq_false, not_false_eq_true, hh]
    · simp (disch := omega) only [↓bd_e, ↓jn_e, ↓opt_bind, ↓reduceIte, iLeT, iLeF, iLtT, iLtF, iEqT, iEqF, il_0, il_1, il_2, il_3, il_4, il_5, il_6, il_7, il_8, il_9, il_10, il_11, il_12, il_13, il_14, il_15, il_16, il_18, il_20, il_24, il_32, il_35, il_40, il_44, il_47, il_48, il_56, il_57, il_58, il_59, il_63, il_64, il_72, il_100, il_120, il_126, il_127, il_160, il_192, il_255, il_349, il_1748, il_6992, iI_add, iI_sub, iI_mul, iI_neg, iI_le, iI_lt, iI_eq, rd_lA, wr_lA, rd_lR, wr_lR, ite_iI, max_iI, min_iI, rem_iI, div_iI, ite_true, ite_false, if_true, if_false, ite_self, and_self, and_true, true_and, and_false, false_and, or_self, or_true, true_or, or_false, false_or, not_true_eq_false, not_false_eq_true, hm]
